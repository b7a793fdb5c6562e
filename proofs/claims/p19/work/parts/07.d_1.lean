theorem dJ6_bitCount_0f7a4_0 : decode cJ6_bitCount_0f7a4 0 = .ok (.iload_n 0, 1) := by decide +kernel
theorem dJ6_bitCount_0f7a4_1 : decode cJ6_bitCount_0f7a4 1 = .ok (.iload_n 0, 1) := by decide +kernel
theorem dJ6_bitCount_0f7a4_2 : decode cJ6_bitCount_0f7a4 2 = .ok (.iconst 1, 1) := by decide +kernel
theorem dJ6_bitCount_0f7a4_3 : decode cJ6_bitCount_0f7a4 3 = .ok (.iushr, 1) := by decide +kernel
theorem dJ6_bitCount_0f7a4_4 : decode cJ6_bitCount_0f7a4 4 = .ok (.ldc_w 265, 3) := by decide +kernel
theorem dJ6_bitCount_0f7a4_7 : decode cJ6_bitCount_0f7a4 7 = .ok (.iand, 1) := by decide +kernel
theorem dJ6_bitCount_0f7a4_8 : decode cJ6_bitCount_0f7a4 8 = .ok (.isub, 1) := by decide +kernel
theorem dJ6_bitCount_0f7a4_9 : decode cJ6_bitCount_0f7a4 9 = .ok (.istore_n 0, 1) := by decide +kernel
theorem dJ6_bitCount_0f7a4_10 : decode cJ6_bitCount_0f7a4 10 = .ok (.iload_n 0, 1) := by decide +kernel
theorem dJ6_bitCount_0f7a4_11 : decode cJ6_bitCount_0f7a4 11 = .ok (.ldc_w 266, 3) := by decide +kernel
theorem dJ6_bitCount_0f7a4_14 : decode cJ6_bitCount_0f7a4 14 = .ok (.iand, 1) := by decide +kernel
theorem dJ6_bitCount_0f7a4_15 : decode cJ6_bitCount_0f7a4 15 = .ok (.iload_n 0, 1) := by decide +kernel
theorem dJ6_bitCount_0f7a4_16 : decode cJ6_bitCount_0f7a4 16 = .ok (.iconst 2, 1) := by decide +kernel
theorem dJ6_bitCount_0f7a4_17 : decode cJ6_bitCount_0f7a4 17 = .ok (.iushr, 1) := by decide +kernel
theorem dJ6_bitCount_0f7a4_18 : decode cJ6_bitCount_0f7a4 18 = .ok (.ldc_w 266, 3) := by decide +kernel
theorem dJ6_bitCount_0f7a4_21 : decode cJ6_bitCount_0f7a4 21 = .ok (.iand, 1) := by decide +kernel
theorem dJ6_bitCount_0f7a4_22 : decode cJ6_bitCount_0f7a4 22 = .ok (.iadd, 1) := by decide +kernel
theorem dJ6_bitCount_0f7a4_23 : decode cJ6_bitCount_0f7a4 23 = .ok (.istore_n 0, 1) := by decide +kernel
theorem dJ6_bitCount_0f7a4_24 : decode cJ6_bitCount_0f7a4 24 = .ok (.iload_n 0, 1) := by decide +kernel
theorem dJ6_bitCount_0f7a4_25 : decode cJ6_bitCount_0f7a4 25 = .ok (.iload_n 0, 1) := by decide +kernel
theorem dJ6_bitCount_0f7a4_26 : decode cJ6_bitCount_0f7a4 26 = .ok (.iconst 4, 1) := by decide +kernel
theorem dJ6_bitCount_0f7a4_27 : decode cJ6_bitCount_0f7a4 27 = .ok (.iushr, 1) := by decide +kernel
theorem dJ6_bitCount_0f7a4_28 : decode cJ6_bitCount_0f7a4 28 = .ok (.iadd, 1) := by decide +kernel
theorem dJ6_bitCount_0f7a4_29 : decode cJ6_bitCount_0f7a4 29 = .ok (.ldc_w 267, 3) := by decide +kernel
theorem dJ6_bitCount_0f7a4_32 : decode cJ6_bitCount_0f7a4 32 = .ok (.iand, 1) := by decide +kernel
theorem dJ6_bitCount_0f7a4_33 : decode cJ6_bitCount_0f7a4 33 = .ok (.istore_n 0, 1) := by decide +kernel
theorem dJ6_bitCount_0f7a4_34 : decode cJ6_bitCount_0f7a4 34 = .ok (.iload_n 0, 1) := by decide +kernel
theorem dJ6_bitCount_0f7a4_35 : decode cJ6_bitCount_0f7a4 35 = .ok (.iload_n 0, 1) := by decide +kernel
theorem dJ6_bitCount_0f7a4_36 : decode cJ6_bitCount_0f7a4 36 = .ok (.bipush 8, 2) := by decide +kernel
theorem dJ6_bitCount_0f7a4_38 : decode cJ6_bitCount_0f7a4 38 = .ok (.iushr, 1) := by decide +kernel
theorem dJ6_bitCount_0f7a4_39 : decode cJ6_bitCount_0f7a4 39 = .ok (.iadd, 1) := by decide +kernel
theorem dJ6_bitCount_0f7a4_40 : decode cJ6_bitCount_0f7a4 40 = .ok (.istore_n 0, 1) := by decide +kernel
theorem dJ6_bitCount_0f7a4_41 : decode cJ6_bitCount_0f7a4 41 = .ok (.iload_n 0, 1) := by decide +kernel
theorem dJ6_bitCount_0f7a4_42 : decode cJ6_bitCount_0f7a4 42 = .ok (.iload_n 0, 1) := by decide +kernel
theorem dJ6_bitCount_0f7a4_43 : decode cJ6_bitCount_0f7a4 43 = .ok (.bipush 16, 2) := by decide +kernel
theorem dJ6_bitCount_0f7a4_45 : decode cJ6_bitCount_0f7a4 45 = .ok (.iushr, 1) := by decide +kernel
theorem dJ6_bitCount_0f7a4_46 : decode cJ6_bitCount_0f7a4 46 = .ok (.iadd, 1) := by decide +kernel
theorem dJ6_bitCount_0f7a4_47 : decode cJ6_bitCount_0f7a4 47 = .ok (.istore_n 0, 1) := by decide +kernel
theorem dJ6_bitCount_0f7a4_48 : decode cJ6_bitCount_0f7a4 48 = .ok (.iload_n 0, 1) := by decide +kernel
theorem dJ6_bitCount_0f7a4_49 : decode cJ6_bitCount_0f7a4 49 = .ok (.bipush 63, 2) := by decide +kernel
theorem dJ6_bitCount_0f7a4_51 : decode cJ6_bitCount_0f7a4 51 = .ok (.iand, 1) := by decide +kernel
theorem dJ6_bitCount_0f7a4_52 : decode cJ6_bitCount_0f7a4 52 = .ok (.ireturn, 1) := by decide +kernel
set_option maxHeartbeats 4000000 in
set_option maxRecDepth 100000 in
theorem S_J6_bitCount_0f7a4 (l : Launch) (D : va_G)  (p0 : Int32) (s0 : Int) (e0 : p0.toInt = s0) (sz : Nat) : Ki l yJ6_bitCount_0f7a4 wsJ6_bitCount_0f7a4 1 40 0 0 D [.int p0] [] [] sz (fun (r : Int32) (_ : Unit) => ((0 ≤ s0 → s0 ≤ 65535 → r.toInt = (bt_CT 16 (s0).toNat : Int)))) (fun (_ : Unit) => []) (fun _ => []) := by
  unfold Ki
  refine g_ofWF (cc := cJ6_bitCount_0f7a4) (lv := [(0, .int p0)]) (by decide +kernel) rfl (Nat.le_of_ble_eq_true rfl) rfl ?_
  intro p e s m args below meth c A Q hA hQ F hr hnm
  have hts := F.2.2.2.2.1
  have w_0 : (Cond.constant RJ6 265 (1431655765)).before args s = true := hts _ (List.mem_of_getElem? (i := 1) rfl)
  have w_1 : (Cond.constant RJ6 266 (858993459)).before args s = true := hts _ (List.mem_of_getElem? (i := 2) rfl)
  have w_2 : (Cond.constant RJ6 267 (252645135)).before args s = true := hts _ (List.mem_of_getElem? (i := 3) rfl)
  have rg0 : -2147483648 ≤ s0 ∧ s0 ≤ 2147483647 := e0 ▸ ti_rng p0
  refine g_iload_n F 0 dJ6_bitCount_0f7a4_0 rfl rfl ?_
  refine g_iload_n F 0 dJ6_bitCount_0f7a4_1 rfl rfl ?_
  refine g_iconst F 1 dJ6_bitCount_0f7a4_2 (by decide) ?_
  refine g_iushr F dJ6_bitCount_0f7a4_3 ?_
  refine g_ldcw F w_0 dJ6_bitCount_0f7a4_4 ?_
  refine g_iand F dJ6_bitCount_0f7a4_7 ?_
  refine g_isub F dJ6_bitCount_0f7a4_8 ?_
  refine g_istore_n F [(0, .int (p0 - ((((p0).toUInt32 >>> ((1 : Int32).toUInt32 &&& Int32.toUInt32 31)).toInt32) &&& 1431655765)))] dJ6_bitCount_0f7a4_9 rfl (by decide) rfl ?_
  refine g_iload_n F 0 dJ6_bitCount_0f7a4_10 rfl rfl ?_
  refine g_ldcw F w_1 dJ6_bitCount_0f7a4_11 ?_
  refine g_iand F dJ6_bitCount_0f7a4_14 ?_
  refine g_iload_n F 0 dJ6_bitCount_0f7a4_15 rfl rfl ?_
  refine g_iconst F 2 dJ6_bitCount_0f7a4_16 (by decide) ?_
  refine g_iushr F dJ6_bitCount_0f7a4_17 ?_
  refine g_ldcw F w_1 dJ6_bitCount_0f7a4_18 ?_
  refine g_iand F dJ6_bitCount_0f7a4_21 ?_
  refine g_iadd F dJ6_bitCount_0f7a4_22 ?_
  refine g_istore_n F [(0, .int (((p0 - ((((p0).toUInt32 >>> ((1 : Int32).toUInt32 &&& Int32.toUInt32 31)).toInt32) &&& 1431655765)) &&& 858993459) + (((((p0 - ((((p0).toUInt32 >>> ((1 : Int32).toUInt32 &&& Int32.toUInt32 31)).toInt32) &&& 1431655765))).toUInt32 >>> ((2 : Int32).toUInt32 &&& Int32.toUInt32 31)).toInt32) &&& 858993459)))] dJ6_bitCount_0f7a4_23 rfl (by decide) rfl ?_
  refine g_iload_n F 0 dJ6_bitCount_0f7a4_24 rfl rfl ?_
  refine g_iload_n F 0 dJ6_bitCount_0f7a4_25 rfl rfl ?_
  refine g_iconst F 4 dJ6_bitCount_0f7a4_26 (by decide) ?_
  refine g_iushr F dJ6_bitCount_0f7a4_27 ?_
  refine g_iadd F dJ6_bitCount_0f7a4_28 ?_
  refine g_ldcw F w_2 dJ6_bitCount_0f7a4_29 ?_
  refine g_iand F dJ6_bitCount_0f7a4_32 ?_
  refine g_istore_n F [(0, .int (((((p0 - ((((p0).toUInt32 >>> ((1 : Int32).toUInt32 &&& Int32.toUInt32 31)).toInt32) &&& 1431655765)) &&& 858993459) + (((((p0 - ((((p0).toUInt32 >>> ((1 : Int32).toUInt32 &&& Int32.toUInt32 31)).toInt32) &&& 1431655765))).toUInt32 >>> ((2 : Int32).toUInt32 &&& Int32.toUInt32 31)).toInt32) &&& 858993459)) + ((((((p0 - ((((p0).toUInt32 >>> ((1 : Int32).toUInt32 &&& Int32.toUInt32 31)).toInt32) &&& 1431655765)) &&& 858993459) + (((((p0 - ((((p0).toUInt32 >>> ((1 : Int32).toUInt32 &&& Int32.toUInt32 31)).toInt32) &&& 1431655765))).toUInt32 >>> ((2 : Int32).toUInt32 &&& Int32.toUInt32 31)).toInt32) &&& 858993459))).toUInt32 >>> ((4 : Int32).toUInt32 &&& Int32.toUInt32 31)).toInt32)) &&& 252645135))] dJ6_bitCount_0f7a4_33 rfl (by decide) rfl ?_
  refine g_iload_n F 0 dJ6_bitCount_0f7a4_34 rfl rfl ?_
  refine g_iload_n F 0 dJ6_bitCount_0f7a4_35 rfl rfl ?_
  refine g_bipush F 8 dJ6_bitCount_0f7a4_36 (by decide) ?_
  refine g_iushr F dJ6_bitCount_0f7a4_38 ?_
  refine g_iadd F dJ6_bitCount_0f7a4_39 ?_
  refine g_istore_n F [(0, .int ((((((p0 - ((((p0).toUInt32 >>> ((1 : Int32).toUInt32 &&& Int32.toUInt32 31)).toInt32) &&& 1431655765)) &&& 858993459) + (((((p0 - ((((p0).toUInt32 >>> ((1 : Int32).toUInt32 &&& Int32.toUInt32 31)).toInt32) &&& 1431655765))).toUInt32 >>> ((2 : Int32).toUInt32 &&& Int32.toUInt32 31)).toInt32) &&& 858993459)) + ((((((p0 - ((((p0).toUInt32 >>> ((1 : Int32).toUInt32 &&& Int32.toUInt32 31)).toInt32) &&& 1431655765)) &&& 858993459) + (((((p0 - ((((p0).toUInt32 >>> ((1 : Int32).toUInt32 &&& Int32.toUInt32 31)).toInt32) &&& 1431655765))).toUInt32 >>> ((2 : Int32).toUInt32 &&& Int32.toUInt32 31)).toInt32) &&& 858993459))).toUInt32 >>> ((4 : Int32).toUInt32 &&& Int32.toUInt32 31)).toInt32)) &&& 252645135) + ((((((((p0 - ((((p0).toUInt32 >>> ((1 : Int32).toUInt32 &&& Int32.toUInt32 31)).toInt32) &&& 1431655765)) &&& 858993459) + (((((p0 - ((((p0).toUInt32 >>> ((1 : Int32).toUInt32 &&& Int32.toUInt32 31)).toInt32) &&& 1431655765))).toUInt32 >>> ((2 : Int32).toUInt32 &&& Int32.toUInt32 31)).toInt32) &&& 858993459)) + ((((((p0 - ((((p0).toUInt32 >>> ((1 : Int32).toUInt32 &&& Int32.toUInt32 31)).toInt32) &&& 1431655765)) &&& 858993459) + (((((p0 - ((((p0).toUInt32 >>> ((1 : Int32).toUInt32 &&& Int32.toUInt32 31)).toInt32) &&& 1431655765))).toUInt32 >>> ((2 : Int32).toUInt32 &&& Int32.toUInt32 31)).toInt32) &&& 858993459))).toUInt32 >>> ((4 : Int32).toUInt32 &&& Int32.toUInt32 31)).toInt32)) &&& 252645135)).toUInt32 >>> ((8 : Int32).toUInt32 &&& Int32.toUInt32 31)).toInt32)))] dJ6_bitCount_0f7a4_40 rfl (by decide) rfl ?_
  refine g_iload_n F 0 dJ6_bitCount_0f7a4_41 rfl rfl ?_
  refine g_iload_n F 0 dJ6_bitCount_0f7a4_42 rfl rfl ?_
  refine g_bipush F 16 dJ6_bitCount_0f7a4_43 (by decide) ?_
  refine g_iushr F dJ6_bitCount_0f7a4_45 ?_
  refine g_iadd F dJ6_bitCount_0f7a4_46 ?_
  refine g_istore_n F [(0, .int (((((((p0 - ((((p0).toUInt32 >>> ((1 : Int32).toUInt32 &&& Int32.toUInt32 31)).toInt32) &&& 1431655765)) &&& 858993459) + (((((p0 - ((((p0).toUInt32 >>> ((1 : Int32).toUInt32 &&& Int32.toUInt32 31)).toInt32) &&& 1431655765))).toUInt32 >>> ((2 : Int32).toUInt32 &&& Int32.toUInt32 31)).toInt32) &&& 858993459)) + ((((((p0 - ((((p0).toUInt32 >>> ((1 : Int32).toUInt32 &&& Int32.toUInt32 31)).toInt32) &&& 1431655765)) &&& 858993459) + (((((p0 - ((((p0).toUInt32 >>> ((1 : Int32).toUInt32 &&& Int32.toUInt32 31)).toInt32) &&& 1431655765))).toUInt32 >>> ((2 : Int32).toUInt32 &&& Int32.toUInt32 31)).toInt32) &&& 858993459))).toUInt32 >>> ((4 : Int32).toUInt32 &&& Int32.toUInt32 31)).toInt32)) &&& 252645135) + ((((((((p0 - ((((p0).toUInt32 >>> ((1 : Int32).toUInt32 &&& Int32.toUInt32 31)).toInt32) &&& 1431655765)) &&& 858993459) + (((((p0 - ((((p0).toUInt32 >>> ((1 : Int32).toUInt32 &&& Int32.toUInt32 31)).toInt32) &&& 1431655765))).toUInt32 >>> ((2 : Int32).toUInt32 &&& Int32.toUInt32 31)).toInt32) &&& 858993459)) + ((((((p0 - ((((p0).toUInt32 >>> ((1 : Int32).toUInt32 &&& Int32.toUInt32 31)).toInt32) &&& 1431655765)) &&& 858993459) + (((((p0 - ((((p0).toUInt32 >>> ((1 : Int32).toUInt32 &&& Int32.toUInt32 31)).toInt32) &&& 1431655765))).toUInt32 >>> ((2 : Int32).toUInt32 &&& Int32.toUInt32 31)).toInt32) &&& 858993459))).toUInt32 >>> ((4 : Int32).toUInt32 &&& Int32.toUInt32 31)).toInt32)) &&& 252645135)).toUInt32 >>> ((8 : Int32).toUInt32 &&& Int32.toUInt32 31)).toInt32)) + (((((((((p0 - ((((p0).toUInt32 >>> ((1 : Int32).toUInt32 &&& Int32.toUInt32 31)).toInt32) &&& 1431655765)) &&& 858993459) + (((((p0 - ((((p0).toUInt32 >>> ((1 : Int32).toUInt32 &&& Int32.toUInt32 31)).toInt32) &&& 1431655765))).toUInt32 >>> ((2 : Int32).toUInt32 &&& Int32.toUInt32 31)).toInt32) &&& 858993459)) + ((((((p0 - ((((p0).toUInt32 >>> ((1 : Int32).toUInt32 &&& Int32.toUInt32 31)).toInt32) &&& 1431655765)) &&& 858993459) + (((((p0 - ((((p0).toUInt32 >>> ((1 : Int32).toUInt32 &&& Int32.toUInt32 31)).toInt32) &&& 1431655765))).toUInt32 >>> ((2 : Int32).toUInt32 &&& Int32.toUInt32 31)).toInt32) &&& 858993459))).toUInt32 >>> ((4 : Int32).toUInt32 &&& Int32.toUInt32 31)).toInt32)) &&& 252645135) + ((((((((p0 - ((((p0).toUInt32 >>> ((1 : Int32).toUInt32 &&& Int32.toUInt32 31)).toInt32) &&& 1431655765)) &&& 858993459) + (((((p0 - ((((p0).toUInt32 >>> ((1 : Int32).toUInt32 &&& Int32.toUInt32 31)).toInt32) &&& 1431655765))).toUInt32 >>> ((2 : Int32).toUInt32 &&& Int32.toUInt32 31)).toInt32) &&& 858993459)) + ((((((p0 - ((((p0).toUInt32 >>> ((1 : Int32).toUInt32 &&& Int32.toUInt32 31)).toInt32) &&& 1431655765)) &&& 858993459) + (((((p0 - ((((p0).toUInt32 >>> ((1 : Int32).toUInt32 &&& Int32.toUInt32 31)).toInt32) &&& 1431655765))).toUInt32 >>> ((2 : Int32).toUInt32 &&& Int32.toUInt32 31)).toInt32) &&& 858993459))).toUInt32 >>> ((4 : Int32).toUInt32 &&& Int32.toUInt32 31)).toInt32)) &&& 252645135)).toUInt32 >>> ((8 : Int32).toUInt32 &&& Int32.toUInt32 31)).toInt32))).toUInt32 >>> ((16 : Int32).toUInt32 &&& Int32.toUInt32 31)).toInt32)))] dJ6_bitCount_0f7a4_47 rfl (by decide) rfl ?_
  refine g_iload_n F 0 dJ6_bitCount_0f7a4_48 rfl rfl ?_
  refine g_bipush F 63 dJ6_bitCount_0f7a4_49 (by decide) ?_
  refine g_iand F dJ6_bitCount_0f7a4_51 ?_
  exact u_iret F hA hQ hr () ((fun h1 h2 => by have h9 := bc_ok (x := p0) (by omega) (by omega); rw [e0] at h9; exact h9)) rfl rfl dJ6_bitCount_0f7a4_52

theorem dX0_mayChoose_0 : decode cX0_mayChoose 0 = .ok (.iload_n 1, 1) := by decide +kernel
theorem dX0_mayChoose_1 : decode cX0_mayChoose 1 = .ok (.invokestatic 72, 3) := by decide +kernel
theorem dX0_mayChoose_4 : decode cX0_mayChoose 4 = .ok (.istore_n 2, 1) := by decide +kernel
theorem dX0_mayChoose_5 : decode cX0_mayChoose 5 = .ok (.iload_n 0, 1) := by decide +kernel
theorem dX0_mayChoose_6 : decode cX0_mayChoose 6 = .ok (.iconst 1, 1) := by decide +kernel
theorem dX0_mayChoose_7 : decode cX0_mayChoose 7 = .ok (.if_icmp .lt 33, 3) := by decide +kernel
theorem dX0_mayChoose_10 : decode cX0_mayChoose 10 = .ok (.iload_n 0, 1) := by decide +kernel
theorem dX0_mayChoose_11 : decode cX0_mayChoose 11 = .ok (.iconst 4, 1) := by decide +kernel
theorem dX0_mayChoose_12 : decode cX0_mayChoose 12 = .ok (.if_icmp .gt 28, 3) := by decide +kernel
theorem dX0_mayChoose_15 : decode cX0_mayChoose 15 = .ok (.iload_n 1, 1) := by decide +kernel
theorem dX0_mayChoose_16 : decode cX0_mayChoose 16 = .ok (.ifCond .lt 24, 3) := by decide +kernel
theorem dX0_mayChoose_19 : decode cX0_mayChoose 19 = .ok (.iload_n 1, 1) := by decide +kernel
theorem dX0_mayChoose_20 : decode cX0_mayChoose 20 = .ok (.ldc 77, 2) := by decide +kernel
theorem dX0_mayChoose_22 : decode cX0_mayChoose 22 = .ok (.if_icmp .ge 18, 3) := by decide +kernel
theorem dX0_mayChoose_25 : decode cX0_mayChoose 25 = .ok (.iload_n 2, 1) := by decide +kernel
theorem dX0_mayChoose_26 : decode cX0_mayChoose 26 = .ok (.iload_n 0, 1) := by decide +kernel
theorem dX0_mayChoose_27 : decode cX0_mayChoose 27 = .ok (.if_icmp .lt 13, 3) := by decide +kernel
theorem dX0_mayChoose_30 : decode cX0_mayChoose 30 = .ok (.iload_n 2, 1) := by decide +kernel
theorem dX0_mayChoose_31 : decode cX0_mayChoose 31 = .ok (.bipush 6, 2) := by decide +kernel
theorem dX0_mayChoose_33 : decode cX0_mayChoose 33 = .ok (.if_icmp .gt 7, 3) := by decide +kernel
theorem dX0_mayChoose_36 : decode cX0_mayChoose 36 = .ok (.iconst 1, 1) := by decide +kernel
theorem dX0_mayChoose_37 : decode cX0_mayChoose 37 = .ok (.goto 4, 3) := by decide +kernel
theorem dX0_mayChoose_40 : decode cX0_mayChoose 40 = .ok (.iconst 0, 1) := by decide +kernel
theorem dX0_mayChoose_41 : decode cX0_mayChoose 41 = .ok (.ireturn, 1) := by decide +kernel
set_option maxRecDepth 20000 in
theorem ggX0_mayChoose_J6_bitCount_0f7a4 : GoodIn wsX0_mayChoose wsJ6_bitCount_0f7a4 := goodIn_r _ [5, 6, 7, 8] rfl (by decide +kernel)
set_option maxRecDepth 20000 in
theorem gX0_mayChoose_J6_bitCount_0f7a4 : GoodIn wsX0_mayChoose (va_wsS RX0 72 yJ6_bitCount_0f7a4 wsJ6_bitCount_0f7a4) := goodIn_app (goodIn_of _ (by decide +kernel)) ggX0_mayChoose_J6_bitCount_0f7a4
set_option maxHeartbeats 4000000 in
set_option maxRecDepth 100000 in
theorem S_X0_mayChoose (l : Launch) (D : va_G)  (p0 : Int32) (s0 : Int) (p1 : Int32) (s1 : Int) (e0 : p0.toInt = s0) (e1 : p1.toInt = s1) (sz : Nat) : Ki l yX0_mayChoose wsX0_mayChoose 2 60 0 0 D [.int p0, .int p1] [] [] sz (fun (r : Int32) (_ : Unit) => ((r = 1 ∧ (1 ≤ s0 ∧ s0 ≤ 4 ∧ 0 ≤ s1 ∧ s1 ≤ 65535 ∧ s0 ≤ (bt_CT 16 (s1).toNat : Int) ∧ (bt_CT 16 (s1).toNat : Int) ≤ 6)) ∨ (r = 0 ∧ ¬ (1 ≤ s0 ∧ s0 ≤ 4 ∧ 0 ≤ s1 ∧ s1 ≤ 65535 ∧ s0 ≤ (bt_CT 16 (s1).toNat : Int) ∧ (bt_CT 16 (s1).toNat : Int) ≤ 6)))) (fun (_ : Unit) => []) (fun _ => []) := by
  unfold Ki
  refine g_ofW (cc := cX0_mayChoose) (lv := [(0, .int p0), (1, .int p1)]) (by decide) rfl (Nat.le_of_ble_eq_true rfl) rfl ?_
  intro p e s m args below meth c A Q hA hQ F hr hnm
  have hts := F.2.2.2.2.1
  have w_0 : (Cond.constant RX0 77 (65536)).before args s = true := hts _ (List.mem_of_getElem? (i := 1) rfl)
  have rg0 : -2147483648 ≤ s0 ∧ s0 ≤ 2147483647 := e0 ▸ ti_rng p0
  have rg1 : -2147483648 ≤ s1 ∧ s1 ≤ 2147483647 := e1 ▸ ti_rng p1
  refine g_iload_n F 1 dX0_mayChoose_0 rfl rfl ?_
  refine u_call0 (k := 0) (n := 0) (As := [.int p1]) (st := []) F (fun sz => S_J6_bitCount_0f7a4 l D p1 s1 e1 sz) (va_cwS 1 hts gX0_mayChoose_J6_bitCount_0f7a4 rfl rfl rfl (by decide +kernel) ⟨Nat.le_of_ble_eq_true rfl, Nat.le_of_ble_eq_true rfl⟩) rfl (Nat.le_of_ble_eq_true rfl) ⟨Nat.zero_le _, Nat.zero_le _⟩ dX0_mayChoose_1 (fun r1 _ hw2 => ?_)
  have q4 : (0 ≤ s1 → s1 ≤ 65535 → r1.toInt = (bt_CT 16 (s1).toNat : Int)) := hw2
  clear hw2
  refine g_istore_n F [(2, .int r1), (0, .int p0), (1, .int p1)] dX0_mayChoose_4 rfl (by decide) rfl ?_
  refine g_iload_n F 1 dX0_mayChoose_5 rfl rfl ?_
  refine g_iconst F 1 dX0_mayChoose_6 (by decide) ?_
  refine v_icmp_lt F 40 dX0_mayChoose_7 (by decide) s0 1 e0 rfl (fun c5 => ?_) (fun c5 => ?_)
  · refine g_iconst F 0 dX0_mayChoose_40 (by decide) ?_
    exact u_zret F hA hQ hr rfl () ((Or.inr (⟨rfl, by first | trivial | omega⟩))) rfl rfl dX0_mayChoose_41
  · refine g_iload_n F 1 dX0_mayChoose_10 rfl rfl ?_
    refine g_iconst F 4 dX0_mayChoose_11 (by decide) ?_
    refine v_icmp_gt F 40 dX0_mayChoose_12 (by decide) s0 4 e0 rfl (fun c6 => ?_) (fun c6 => ?_)
    · refine g_iconst F 0 dX0_mayChoose_40 (by decide) ?_
      exact u_zret F hA hQ hr rfl () ((Or.inr (⟨rfl, by first | trivial | omega⟩))) rfl rfl dX0_mayChoose_41
    · refine g_iload_n F 2 dX0_mayChoose_15 rfl rfl ?_
      refine v_if_lt F 40 dX0_mayChoose_16 (by decide) s1 e1 (fun c7 => ?_) (fun c7 => ?_)
      · refine g_iconst F 0 dX0_mayChoose_40 (by decide) ?_
        exact u_zret F hA hQ hr rfl () ((Or.inr (⟨rfl, by first | trivial | omega⟩))) rfl rfl dX0_mayChoose_41
      · refine g_iload_n F 2 dX0_mayChoose_19 rfl rfl ?_
        refine g_ldc F w_0 dX0_mayChoose_20 ?_
        refine v_icmp_ge F 40 dX0_mayChoose_22 (by decide) s1 65536 e1 rfl (fun c8 => ?_) (fun c8 => ?_)
        · refine g_iconst F 0 dX0_mayChoose_40 (by decide) ?_
          exact u_zret F hA hQ hr rfl () ((Or.inr (⟨rfl, by first | trivial | omega⟩))) rfl rfl dX0_mayChoose_41
        · refine g_iload_n F 0 dX0_mayChoose_25 rfl rfl ?_
          refine g_iload_n F 1 dX0_mayChoose_26 rfl rfl ?_
          have b9 := ti_rng r1
          refine v_icmp_lt F 40 dX0_mayChoose_27 (by decide) r1.toInt s0 rfl e0 (fun c10 => ?_) (fun c10 => ?_)
          · refine g_iconst F 0 dX0_mayChoose_40 (by decide) ?_
            exact u_zret F hA hQ hr rfl () ((Or.inr (⟨rfl, by first | trivial | omega⟩))) rfl rfl dX0_mayChoose_41
          · refine g_iload_n F 0 dX0_mayChoose_30 rfl rfl ?_
            refine g_bipush F 6 dX0_mayChoose_31 (by decide) ?_
            refine v_icmp_gt F 40 dX0_mayChoose_33 (by decide) r1.toInt 6 rfl rfl (fun c11 => ?_) (fun c11 => ?_)
            · refine g_iconst F 0 dX0_mayChoose_40 (by decide) ?_
              exact u_zret F hA hQ hr rfl () ((Or.inr (⟨rfl, by first | trivial | omega⟩))) rfl rfl dX0_mayChoose_41
            · refine g_iconst F 1 dX0_mayChoose_36 (by decide) ?_
              refine g_goto F 41 dX0_mayChoose_37 (by decide) ?_
              exact u_zret F hA hQ hr rfl () ((Or.inl (⟨rfl, by first | trivial | omega⟩))) rfl rfl dX0_mayChoose_41

theorem dX0_bestSet_0 : decode cX0_bestSet 0 = .ok (.iconst (-1), 1) := by decide +kernel
theorem dX0_bestSet_1 : decode cX0_bestSet 1 = .ok (.istore 5, 2) := by decide +kernel
theorem dX0_bestSet_3 : decode cX0_bestSet 3 = .ok (.iconst 0, 1) := by decide +kernel
theorem dX0_bestSet_4 : decode cX0_bestSet 4 = .ok (.istore 6, 2) := by decide +kernel
theorem dX0_bestSet_6 : decode cX0_bestSet 6 = .ok (.iconst 0, 1) := by decide +kernel
theorem dX0_bestSet_7 : decode cX0_bestSet 7 = .ok (.istore 7, 2) := by decide +kernel
theorem dX0_bestSet_9 : decode cX0_bestSet 9 = .ok (.iconst 0, 1) := by decide +kernel
theorem dX0_bestSet_10 : decode cX0_bestSet 10 = .ok (.istore 8, 2) := by decide +kernel
theorem dX0_bestSet_12 : decode cX0_bestSet 12 = .ok (.iload 8, 2) := by decide +kernel
theorem dX0_bestSet_14 : decode cX0_bestSet 14 = .ok (.bipush 64, 2) := by decide +kernel
theorem dX0_bestSet_16 : decode cX0_bestSet 16 = .ok (.if_icmp .ge 69, 3) := by decide +kernel
theorem dX0_bestSet_19 : decode cX0_bestSet 19 = .ok (.iload 7, 2) := by decide +kernel
theorem dX0_bestSet_21 : decode cX0_bestSet 21 = .ok (.iload 4, 2) := by decide +kernel
theorem dX0_bestSet_23 : decode cX0_bestSet 23 = .ok (.isub, 1) := by decide +kernel
theorem dX0_bestSet_24 : decode cX0_bestSet 24 = .ok (.iload 4, 2) := by decide +kernel
theorem dX0_bestSet_26 : decode cX0_bestSet 26 = .ok (.iand, 1) := by decide +kernel
theorem dX0_bestSet_27 : decode cX0_bestSet 27 = .ok (.istore 7, 2) := by decide +kernel
theorem dX0_bestSet_29 : decode cX0_bestSet 29 = .ok (.iload 7, 2) := by decide +kernel
theorem dX0_bestSet_31 : decode cX0_bestSet 31 = .ok (.ifCond .ne 6, 3) := by decide +kernel
theorem dX0_bestSet_34 : decode cX0_bestSet 34 = .ok (.goto 51, 3) := by decide +kernel
theorem dX0_bestSet_37 : decode cX0_bestSet 37 = .ok (.iload 7, 2) := by decide +kernel
theorem dX0_bestSet_39 : decode cX0_bestSet 39 = .ok (.invokestatic 72, 3) := by decide +kernel
theorem dX0_bestSet_42 : decode cX0_bestSet 42 = .ok (.iload_n 3, 1) := by decide +kernel
theorem dX0_bestSet_43 : decode cX0_bestSet 43 = .ok (.if_icmp .ne 36, 3) := by decide +kernel
theorem dX0_bestSet_46 : decode cX0_bestSet 46 = .ok (.aload_n 0, 1) := by decide +kernel
theorem dX0_bestSet_47 : decode cX0_bestSet 47 = .ok (.getfield 32, 3) := by decide +kernel
theorem dX0_bestSet_50 : decode cX0_bestSet 50 = .ok (.iload 7, 2) := by decide +kernel
theorem dX0_bestSet_52 : decode cX0_bestSet 52 = .ok (.invokevirtual 78, 3) := by decide +kernel
theorem dX0_bestSet_55 : decode cX0_bestSet 55 = .ok (.aload_n 0, 1) := by decide +kernel
theorem dX0_bestSet_56 : decode cX0_bestSet 56 = .ok (.iload_n 1, 1) := by decide +kernel
theorem dX0_bestSet_57 : decode cX0_bestSet 57 = .ok (.iload_n 2, 1) := by decide +kernel
theorem dX0_bestSet_58 : decode cX0_bestSet 58 = .ok (.iload 6, 2) := by decide +kernel
theorem dX0_bestSet_60 : decode cX0_bestSet 60 = .ok (.invokevirtual 68, 3) := by decide +kernel
theorem dX0_bestSet_63 : decode cX0_bestSet 63 = .ok (.istore 9, 2) := by decide +kernel
theorem dX0_bestSet_65 : decode cX0_bestSet 65 = .ok (.iload 9, 2) := by decide +kernel
theorem dX0_bestSet_67 : decode cX0_bestSet 67 = .ok (.iconst (-1), 1) := by decide +kernel
theorem dX0_bestSet_68 : decode cX0_bestSet 68 = .ok (.if_icmp .eq 11, 3) := by decide +kernel
theorem dX0_bestSet_71 : decode cX0_bestSet 71 = .ok (.iload 7, 2) := by decide +kernel
theorem dX0_bestSet_73 : decode cX0_bestSet 73 = .ok (.istore 5, 2) := by decide +kernel
theorem dX0_bestSet_75 : decode cX0_bestSet 75 = .ok (.iload 9, 2) := by decide +kernel
theorem dX0_bestSet_77 : decode cX0_bestSet 77 = .ok (.istore 6, 2) := by decide +kernel
theorem dX0_bestSet_79 : decode cX0_bestSet 79 = .ok (.iinc 8 1, 3) := by decide +kernel
theorem dX0_bestSet_82 : decode cX0_bestSet 82 = .ok (.goto (-70), 3) := by decide +kernel
theorem dX0_bestSet_85 : decode cX0_bestSet 85 = .ok (.aload_n 0, 1) := by decide +kernel
theorem dX0_bestSet_86 : decode cX0_bestSet 86 = .ok (.getfield 32, 3) := by decide +kernel
theorem dX0_bestSet_89 : decode cX0_bestSet 89 = .ok (.iconst 0, 1) := by decide +kernel
theorem dX0_bestSet_90 : decode cX0_bestSet 90 = .ok (.invokevirtual 78, 3) := by decide +kernel
theorem dX0_bestSet_93 : decode cX0_bestSet 93 = .ok (.iload 5, 2) := by decide +kernel
theorem dX0_bestSet_95 : decode cX0_bestSet 95 = .ok (.ireturn, 1) := by decide +kernel
set_option maxRecDepth 20000 in
theorem ggX0_bestSet_J6_bitCount_0f7a4 : GoodIn wsX0_bestSet wsJ6_bitCount_0f7a4 := goodIn_r _ [5, 6, 7, 8] rfl (by decide +kernel)
set_option maxRecDepth 20000 in
theorem gX0_bestSet_J6_bitCount_0f7a4 : GoodIn wsX0_bestSet (va_wsS RX0 72 yJ6_bitCount_0f7a4 wsJ6_bitCount_0f7a4) := goodIn_app (goodIn_of _ (by decide +kernel)) ggX0_bestSet_J6_bitCount_0f7a4
set_option maxRecDepth 20000 in
theorem ggX0_bestSet_X0_deepestFeed : GoodIn wsX0_bestSet wsX0_deepestFeed := goodIn_r _ [19, 20, 21, 22, 18, 23, 1, 24, 25, 26, 27, 28, 29, 30, 31, 12, 32, 33, 34, 35, 36, 37, 38, 39, 40, 41, 42, 43, 44, 45, 46, 47, 48, 49, 50, 51, 52, 53, 54, 55, 56, 57, 58, 59, 60, 61, 62, 63, 64, 65, 66, 67, 68, 69, 70, 71, 72, 73, 74, 75, 76, 77, 78, 79, 80, 81, 82, 83, 84, 85, 86, 87, 88, 89, 90, 91, 92, 93, 94, 95, 14, 96, 97, 98, 99, 100, 101, 102, 103, 104, 105, 106, 107, 108, 109, 110, 111, 112, 113, 114, 115, 116, 117, 118, 119, 120, 121, 122, 123, 124, 125, 126, 127, 128, 129, 130, 131, 132, 133, 134, 135, 136, 137, 138, 139, 140, 141, 142, 143, 144, 145, 146, 167, 168, 169, 170, 171, 172, 173, 174, 175, 147, 148, 149, 150, 151, 152, 153, 154, 155, 156, 157, 158, 159, 160, 161, 162, 163, 164, 165, 166, 176, 177, 178, 179, 180, 181, 182, 183, 184] rfl (by decide +kernel)
set_option maxRecDepth 20000 in
theorem gX0_bestSet_X0_deepestFeed : GoodIn wsX0_bestSet (wsV RX0 68 RX0 yX0_deepestFeed wsX0_deepestFeed) := goodIn_app (goodIn_of _ (by decide +kernel)) ggX0_bestSet_X0_deepestFeed
set_option maxRecDepth 20000 in
theorem ggX0_bestSet_X5_useTeeth : GoodIn wsX0_bestSet wsX5_useTeeth := goodIn_r _ [13, 14, 147, 148, 149, 150, 151, 152, 153, 154, 155, 156, 157, 158, 159, 160, 161, 162, 163, 164, 165, 166] rfl (by decide +kernel)
set_option maxRecDepth 20000 in
theorem gX0_bestSet_X5_useTeeth : GoodIn wsX0_bestSet (wsV RX0 78 RX5 yX5_useTeeth wsX5_useTeeth) := goodIn_app (goodIn_of _ (by decide +kernel)) ggX0_bestSet_X5_useTeeth
set_option maxHeartbeats 4000000 in
set_option maxRecDepth 100000 in
theorem S_X0_bestSet (l : Launch) (D : va_G) (K : Nat → ClassId) (a : Nat → Nat) (G : gS) (p0 : Int32) (s0 : Int) (p1 : Int32) (s1 : Int) (p2 : Int32) (s2 : Int) (p3 : Int32) (s3 : Int) (e0 : p0.toInt = s0) (e1 : p1.toInt = s1) (e2 : p2.toInt = s2) (e3 : p3.toInt = s3) (hI : xI G) (sz : Nat) : Ki l yX0_bestSet wsX0_bestSet 7 197 0 0 D [.ref (a 7), .int p0, .int p1, .int p2, .int p3] (xW K a G) (tK K) sz (fun (r : Int32) (G' : gS) => (xI G') ∧ (gu_un xcd [602, 603, 604, 605, 607, 608, 613, 614, 615, 616, 617, 618, 619, 620, 2100, 2400, 2700, 4400, 4500, 4600, 4700, 4800] G G') ∧ (((G' 6 6).toInt = 0)) ∧ ((∀ (Q : gS) (C : Nat → List Int), (G 6 6).toInt = 0 → lSp G → xSq G Q C → 1 ≤ s2 → s2 ≤ 4 → 0 ≤ s3 → s3 ≤ 65535 → (bt_CT 16 s3.toNat : Int) ≤ 6 → ∃ d : Int, btR (btP Q C (G 38) (G 5 2) s0 s1 p1) s3.toNat s2.toNat s3.toNat r.toInt d))) (fun (G' : gS) => (xW K a G')) (fun _ => (tK K)) := by
  unfold Ki
  refine g_ofW (cc := cX0_bestSet) (lv := [(0, .ref (a 7)), (1, .int p0), (2, .int p1), (3, .int p2), (4, .int p3)]) (by decide) rfl (Nat.le_of_ble_eq_true rfl) rfl ?_
  intro p e s m args below meth c A Q hA hQ F hr hnm
  have hts := F.2.2.2.2.1
  have w_0 : (Cond.fieldLink RX0 32 "QuietCut$Chooser" "lathe" "LQuietCut$Lathe;").before args s = true := hts _ (List.mem_of_getElem? (i := 1) rfl)
  have i_X0 : ∀ w ∈ u_ws RX0 TX0 8, w ∈ wsX0_bestSet := fun _ h => List.mem_cons_of_mem _ (List.mem_append_left _ (List.mem_append_left _ (List.mem_append_left _ (List.mem_append_left _ (List.mem_append_right _ h)))))
  have rg0 : -2147483648 ≤ s0 ∧ s0 ≤ 2147483647 := e0 ▸ ti_rng p0
  have rg1 : -2147483648 ≤ s1 ∧ s1 ≤ 2147483647 := e1 ▸ ti_rng p1
  have rg2 : -2147483648 ≤ s2 ∧ s2 ≤ 2147483647 := e2 ▸ ti_rng p2
  have rg3 : -2147483648 ≤ s3 ∧ s3 ≤ 2147483647 := e3 ▸ ti_rng p3
  have J_12 : ∀ (fuel : Nat) (x12_5 : Int32) (x12_6 : Int32) (x12_7 : Int32) (x12_8 : Int32) (Gj12 : gS), (2147483647 - x12_8.toInt).toNat < fuel → (0 ≤ x12_6.toInt ∧ x12_6.toInt ≤ 20) → (0 ≤ x12_8.toInt ∧ x12_8.toInt ≤ 64) → (xI Gj12) → (gu_un xcd [602, 603, 604, 605, 607, 608, 613, 614, 615, 616, 617, 618, 619, 620, 2100, 2400, 2700, 4400, 4500, 4600, 4700, 4800] G Gj12) → (∀ (Q : gS) (C : Nat → List Int), (G 6 6).toInt = 0 → lSp G → xSq G Q C → 1 ≤ s2 → s2 ≤ 4 → 0 ≤ s3 → s3 ≤ 65535 → (bt_CT 16 s3.toNat : Int) ≤ 6 → btR (btP Q C (G 38) (G 5 2) s0 s1 p1) s3.toNat s2.toNat (x12_7.toInt).toNat x12_5.toInt x12_6.toInt ∧ sb 16 (x12_7.toInt).toNat s3.toNat ∧ 0 ≤ x12_7.toInt ∧ x12_7.toInt ≤ 65535 ∧ x12_8.toInt ≤ (rk 16 s3.toNat (x12_7.toInt).toNat : Int)) → gG p l e (gR 7 0 0 197) s m args below meth c D A 10 Q 0 0 (xW K a Gj12) (tK K) [(0, .ref (a 7)), (1, .int p0), (2, .int p1), (3, .int p2), (4, .int p3), (5, .int x12_5), (6, .int x12_6), (7, .int x12_7), (8, .int x12_8)] 12 [] := by
    intro fuel
    induction fuel with
    | zero => intro x12_5 x12_6 x12_7 x12_8 Gj12 hm; exact absurd hm (Nat.not_lt_zero _)
    | succ fuel_12 ih_12 =>
      intro x12_5 x12_6 x12_7 x12_8 Gj12 hm_12 h12_6 h12_8 jI12 jU12 bt
      refine g_iload F 8 dX0_bestSet_12 rfl ?_
      refine g_bipush F 64 dX0_bestSet_14 (by decide) ?_
      refine v_icmp_ge F 85 dX0_bestSet_16 (by decide) x12_8.toInt 64 rfl rfl (fun c1 => ?_) (fun c1 => ?_)
      · refine g_aload_n F 0 dX0_bestSet_85 rfl rfl ?_
        refine xg_7_2 F i_X0 w_0 dX0_bestSet_86 ?_
        refine g_iconst F 0 dX0_bestSet_89 (by decide) ?_
        refine u_callVv (k := 0) (n := 0) (b := a 6) (As := [.int 0]) (st := []) F (fun sz => S_X5_useTeeth l D K a Gj12 0 0 rfl jI12 sz) (cwV 1 hts gX0_bestSet_X5_useTeeth rfl rfl rfl (by decide +kernel) ⟨Nat.le_of_ble_eq_true rfl, Nat.le_of_ble_eq_true rfl⟩) rfl 6 xc_6 rfl (Nat.le_of_ble_eq_true rfl) ⟨Nat.zero_le _, Nat.zero_le _⟩ dX0_bestSet_90 (fun G4 hw3 => ?_)
        have hI5 : xI G4 := hw3.1
        have hU6 : gu_un xcd [607] Gj12 G4 := hw3.2.1
        have hp7 := hw3.2.2
        have q8 : ((G4 6 6).toInt = (0 : Int)) := hp7
        clear hp7 hw3
        refine g_iload F 5 dX0_bestSet_93 rfl ?_
        exact u_iret F hA hQ hr G4 (⟨hI5, (gu_un.tr (gu_un.tr gu_un.rf (gu_un.su jU12 rfl)) (gu_un.su hU6 rfl)), (by show ((G4 6 6).toInt = 0); (first | omega | (simp only [Int32.reduceToInt, true_and, and_true, ne_eq, not_true_eq_false, false_and, or_false, false_or, true_or, or_true, false_implies] <;> omega))), (fun Q C h6 hl hq m1 m4 l0 l5 l6 => by obtain ⟨g1, g2, g3, g4, g5⟩ := bt Q C h6 hl hq m1 m4 l0 l5 l6; have k1 := rk_lt (k := 16) (s := x12_7.toInt.toNat) (l := s3.toNat); have k2 : 2 ^ bt_CT 16 s3.toNat ≤ 2 ^ 6 := Nat.pow_le_pow_right (by decide) (by omega); have k3 : (2 : Nat) ^ 6 = 64 := rfl; exfalso; omega)⟩) rfl rfl dX0_bestSet_95
      · refine g_iload F 7 dX0_bestSet_19 rfl ?_
        refine g_iload F 4 dX0_bestSet_21 rfl ?_
        refine g_isub F dX0_bestSet_23 ?_
        refine g_iload F 4 dX0_bestSet_24 rfl ?_
        refine g_iand F dX0_bestSet_26 ?_
        refine g_istore F [(7, .int ((x12_7 - p3) &&& p3)), (0, .ref (a 7)), (1, .int p0), (2, .int p1), (3, .int p2), (4, .int p3), (5, .int x12_5), (6, .int x12_6), (8, .int x12_8)] dX0_bestSet_27 (by decide) rfl ?_
        refine g_iload F 0 dX0_bestSet_29 rfl ?_
        refine v_if_ne F 37 dX0_bestSet_31 (by decide) (((x12_7 - p3) &&& p3) : Int32).toInt rfl (fun c9 => ?_) (fun c9 => ?_)
        · refine g_iload F 0 dX0_bestSet_37 rfl ?_
          refine u_call0 (k := 0) (n := 0) (As := [.int ((x12_7 - p3) &&& p3)]) (st := []) F (fun sz => S_J6_bitCount_0f7a4 l D ((x12_7 - p3) &&& p3) (((x12_7 - p3) &&& p3) : Int32).toInt rfl sz) (va_cwS 1 hts gX0_bestSet_J6_bitCount_0f7a4 rfl rfl rfl (by decide +kernel) ⟨Nat.le_of_ble_eq_true rfl, Nat.le_of_ble_eq_true rfl⟩) rfl (Nat.le_of_ble_eq_true rfl) ⟨Nat.zero_le _, Nat.zero_le _⟩ dX0_bestSet_39 (fun r10 _ hw11 => ?_)
          have q13 : (0 ≤ (((x12_7 - p3) &&& p3) : Int32).toInt → (((x12_7 - p3) &&& p3) : Int32).toInt ≤ 65535 → r10.toInt = (bt_CT 16 ((((x12_7 - p3) &&& p3) : Int32).toInt).toNat : Int)) := hw11
          clear hw11
          refine g_iload_n F 4 dX0_bestSet_42 rfl rfl ?_
          have b14 := ti_rng r10
          refine v_icmp_ne F 79 dX0_bestSet_43 (by decide) r10.toInt s2 rfl e2 (fun c15 => ?_) (fun c15 => ?_)
          · refine u_iinc F (fun v_ => [(8, .int v_), (7, .int ((x12_7 - p3) &&& p3)), (0, .ref (a 7)), (1, .int p0), (2, .int p1), (3, .int p2), (4, .int p3), (5, .int x12_5), (6, .int x12_6)]) dX0_bestSet_79 (j := 8) rfl x12_8.toInt 1 rfl rfl (by omega) (by omega) (by decide) (fun _ => rfl) (fun y16 ey16 => ?_)
            refine g_goto F 12 dX0_bestSet_82 (by decide) ?_
            refine g_locals [(0, .ref (a 7)), (1, .int p0), (2, .int p1), (3, .int p2), (4, .int p3), (5, .int x12_5), (6, .int x12_6), (7, .int ((x12_7 - p3) &&& p3)), (8, .int y16)] [2, 3, 4, 5, 6, 7, 8, 1, 0] rfl ?_
            exact ih_12 x12_5 x12_6 ((x12_7 - p3) &&& p3) y16 Gj12 (by omega) (by have h9 := ti_rng x12_6; omega) (by have h9 := ti_rng y16; omega) jI12 (gu_un.tr gu_un.rf (gu_un.su jU12 rfl)) (fun Q C h6 hl hq m1 m4 l0 l5 l6 => by obtain ⟨g1, g2, g3, g4, g5⟩ := bt Q C h6 hl hq m1 m4 l0 l5 l6; have en := nx_i (x := x12_7) (l := p3) g3 (by omega) (by omega) (by rw [e3]; exact g2); rw [e3] at en; have ns := sb_nx g2; have nle := sb.le ns; have et : nx 16 s3.toNat x12_7.toInt.toNat = (((x12_7 - p3) &&& p3) : Int32).toInt.toNat := (by omega); have nl := nx_lt g2 (by omega); rw [et] at ns nl nle; have rm := rk_mono g2 ns nl.1; have bw : ∀ u : Nat, btO s3.toNat s2.toNat u → x12_7.toInt.toNat < u → u < (((x12_7 - p3) &&& p3) : Int32).toInt.toNat → False := (fun u hu h1 h2 => by have h3 := nl.2 u hu.2.1 h1; omega); have bq := q13 (by omega) (by omega); exact ⟨btR.skip g1 (by omega) (fun u hu h1 h2 => by rcases (show u < (((x12_7 - p3) &&& p3) : Int32).toInt.toNat ∨ u = (((x12_7 - p3) &&& p3) : Int32).toInt.toNat by omega) with c | c <;> first | exact bw u hu h1 c | (have h3 := hu.2.2; rw [c] at h3; omega)), ns, by omega, by omega, by omega⟩)
          · refine g_aload_n F 1 dX0_bestSet_46 rfl rfl ?_
            refine xg_7_2 F i_X0 w_0 dX0_bestSet_47 ?_
            refine g_iload F 0 dX0_bestSet_50 rfl ?_
            refine u_callVv (k := 0) (n := 0) (b := a 6) (As := [.int ((x12_7 - p3) &&& p3)]) (st := []) F (fun sz => S_X5_useTeeth l D K a Gj12 ((x12_7 - p3) &&& p3) (((x12_7 - p3) &&& p3) : Int32).toInt rfl jI12 sz) (cwV 1 hts gX0_bestSet_X5_useTeeth rfl rfl rfl (by decide +kernel) ⟨Nat.le_of_ble_eq_true rfl, Nat.le_of_ble_eq_true rfl⟩) rfl 6 xc_6 rfl (Nat.le_of_ble_eq_true rfl) ⟨Nat.zero_le _, Nat.zero_le _⟩ dX0_bestSet_52 (fun G19 hw18 => ?_)
            have hI20 : xI G19 := hw18.1
            have hU21 : gu_un xcd [607] Gj12 G19 := hw18.2.1
            have hp22 := hw18.2.2
            have q23 : ((G19 6 6).toInt = (((x12_7 - p3) &&& p3) : Int32).toInt) := hp22
            clear hp22 hw18
            refine g_aload_n F 1 dX0_bestSet_55 rfl rfl ?_
            refine g_iload_n F 2 dX0_bestSet_56 rfl rfl ?_
            refine g_iload_n F 3 dX0_bestSet_57 rfl rfl ?_
            refine g_iload F 7 dX0_bestSet_58 rfl ?_
            refine u_callVi (k := 0) (n := 0) (b := a 7) (As := [.int p0, .int p1, .int x12_6]) (st := []) F (fun sz => S_X0_deepestFeed l D K a G19 p0 s0 p1 s1 x12_6 x12_6.toInt e0 e1 rfl hI20 sz) (cwV 3 hts gX0_bestSet_X0_deepestFeed rfl rfl rfl (by decide +kernel) ⟨Nat.le_of_ble_eq_true rfl, Nat.le_of_ble_eq_true rfl⟩) rfl 7 xc_7 rfl (Nat.le_of_ble_eq_true rfl) ⟨Nat.zero_le _, Nat.zero_le _⟩ dX0_bestSet_60 (fun r24 G26 hw25 => ?_)
            have hI27 : xI G26 := hw25.1
            have hU28 : gu_un xcd [602, 603, 604, 605, 608, 613, 614, 615, 616, 617, 618, 619, 620, 2100, 2400, 2700, 4400, 4500, 4600, 4700, 4800] G19 G26 := hw25.2.1
            have hp29 := hw25.2.2
            have q30 : (∀ (Q : gS) (C : Nat → List Int), xTok G19 → lSp G19 → xSq G19 Q C → dpR (fun f : Int => pvAr Q s0 s1 f ∧ pvA Q C (G 38) (G 5 2) s0 p1 (Int32.ofInt f) (Q 0 9)) x12_6.toInt r24.toInt) := by have h9 := hp29.2; (try simp only [(show G19 38 = (G 38) from (show G19 38 = Gj12 38 from funext fun k_ => hU21 38 k_ (show (3800 : Nat) ∉ ([607] : List Nat) by decide)).trans ((show Gj12 38 = G 38 from funext fun k_ => jU12 38 k_ (show (3800 : Nat) ∉ ([602, 603, 604, 605, 607, 608, 613, 614, 615, 616, 617, 618, 619, 620, 2100, 2400, 2700, 4400, 4500, 4600, 4700, 4800] : List Nat) by decide)))), (show G19 5 2 = (G 5 2) from (hU21 5 2 (by decide)).trans (jU12 5 2 (by decide)))] at h9); first | exact h9 | omega
            have rg31 := hp29.1
            clear hp29 hw25
            refine g_istore F [(9, .int r24), (7, .int ((x12_7 - p3) &&& p3)), (0, .ref (a 7)), (1, .int p0), (2, .int p1), (3, .int p2), (4, .int p3), (5, .int x12_5), (6, .int x12_6), (8, .int x12_8)] dX0_bestSet_63 (by decide) rfl ?_
            refine g_iload F 0 dX0_bestSet_65 rfl ?_
            refine g_iconst F (-1) dX0_bestSet_67 (by decide) ?_
            refine v_icmp_eq F 79 dX0_bestSet_68 (by decide) r24.toInt (-1) rfl rfl (fun c32 => ?_) (fun c32 => ?_)
            · refine u_iinc F (fun v_ => [(8, .int v_), (9, .int r24), (7, .int ((x12_7 - p3) &&& p3)), (0, .ref (a 7)), (1, .int p0), (2, .int p1), (3, .int p2), (4, .int p3), (5, .int x12_5), (6, .int x12_6)]) dX0_bestSet_79 (j := 9) rfl x12_8.toInt 1 rfl rfl (by omega) (by omega) (by decide) (fun _ => rfl) (fun y33 ey33 => ?_)
              refine g_goto F 12 dX0_bestSet_82 (by decide) ?_
              refine g_locals [(0, .ref (a 7)), (1, .int p0), (2, .int p1), (3, .int p2), (4, .int p3), (5, .int x12_5), (6, .int x12_6), (7, .int ((x12_7 - p3) &&& p3)), (8, .int y33)] [3, 4, 5, 6, 7, 8, 9, 2, 0] rfl ?_
              exact ih_12 x12_5 x12_6 ((x12_7 - p3) &&& p3) y33 G26 (by omega) (by have h9 := ti_rng x12_6; omega) (by have h9 := ti_rng y33; omega) hI27 (gu_un.tr (gu_un.tr (gu_un.tr gu_un.rf (gu_un.su jU12 rfl)) (gu_un.su hU21 rfl)) (gu_un.su hU28 rfl)) (fun Q C h6 hl hq m1 m4 l0 l5 l6 => by obtain ⟨g1, g2, g3, g4, g5⟩ := bt Q C h6 hl hq m1 m4 l0 l5 l6; have en := nx_i (x := x12_7) (l := p3) g3 (by omega) (by omega) (by rw [e3]; exact g2); rw [e3] at en; have ns := sb_nx g2; have nle := sb.le ns; have et : nx 16 s3.toNat x12_7.toInt.toNat = (((x12_7 - p3) &&& p3) : Int32).toInt.toNat := (by omega); have nl := nx_lt g2 (by omega); rw [et] at ns nl nle; have rm := rk_mono g2 ns nl.1; have bw : ∀ u : Nat, btO s3.toNat s2.toNat u → x12_7.toInt.toNat < u → u < (((x12_7 - p3) &&& p3) : Int32).toInt.toNat → False := (fun u hu h1 h2 => by have h3 := nl.2 u hu.2.1 h1; omega); have bq := q13 (by omega) (by omega); have s66 : (G19 6 6).toInt = (((x12_7 - p3) &&& p3) : Int32).toInt := (by omega); have okt : btO s3.toNat s2.toNat (((x12_7 - p3) &&& p3) : Int32).toInt.toNat := ⟨by omega, ns, by omega⟩; have hd : dpR ((btP Q C (G 38) (G 5 2) s0 s1 p1) (((x12_7 - p3) &&& p3) : Int32).toInt.toNat) x12_6.toInt r24.toInt := q30 (Qt Q (((x12_7 - p3) &&& p3) : Int32).toInt.toNat) C (show xTok G19 from Or.inr ⟨by omega, by omega, by rw [s66, bt_tmct]; omega⟩) (lSp.un2 hl (show gu_un xcd [602, 603, 604, 605, 607, 608, 613, 614, 615, 616, 617, 618, 619, 620, 2100, 2400, 2700, 4400, 4500, 4600, 4700, 4800] G G19 from (gu_un.tr (gu_un.tr gu_un.rf (gu_un.su jU12 rfl)) (gu_un.su hU21 rfl))) rfl) (xSq.set hq (show gu_un xcd [602, 603, 604, 605, 607, 608, 613, 614, 615, 616, 617, 618, 619, 620, 2100, 2400, 2700, 4400, 4500, 4600, 4700, 4800] G G19 from (gu_un.tr (gu_un.tr gu_un.rf (gu_un.su jU12 rfl)) (gu_un.su hU21 rfl))) rfl s66 (by omega)); exact ⟨btR.gox (b' := x12_5.toInt) (d' := x12_6.toInt) g1 okt (by omega) bw hd (by omega), ns, by omega, by omega, by omega⟩)
            · refine g_iload F 1 dX0_bestSet_71 rfl ?_
              refine g_istore F [(5, .int ((x12_7 - p3) &&& p3)), (9, .int r24), (7, .int ((x12_7 - p3) &&& p3)), (0, .ref (a 7)), (1, .int p0), (2, .int p1), (3, .int p2), (4, .int p3), (6, .int x12_6), (8, .int x12_8)] dX0_bestSet_73 (by decide) rfl ?_
              refine g_iload F 1 dX0_bestSet_75 rfl ?_
              refine g_istore F [(6, .int r24), (5, .int ((x12_7 - p3) &&& p3)), (9, .int r24), (7, .int ((x12_7 - p3) &&& p3)), (0, .ref (a 7)), (1, .int p0), (2, .int p1), (3, .int p2), (4, .int p3), (8, .int x12_8)] dX0_bestSet_77 (by decide) rfl ?_
              refine u_iinc F (fun v_ => [(8, .int v_), (6, .int r24), (5, .int ((x12_7 - p3) &&& p3)), (9, .int r24), (7, .int ((x12_7 - p3) &&& p3)), (0, .ref (a 7)), (1, .int p0), (2, .int p1), (3, .int p2), (4, .int p3)]) dX0_bestSet_79 (j := 9) rfl x12_8.toInt 1 rfl rfl (by omega) (by omega) (by decide) (fun _ => rfl) (fun y34 ey34 => ?_)
              refine g_goto F 12 dX0_bestSet_82 (by decide) ?_
              refine g_locals [(0, .ref (a 7)), (1, .int p0), (2, .int p1), (3, .int p2), (4, .int p3), (5, .int ((x12_7 - p3) &&& p3)), (6, .int r24), (7, .int ((x12_7 - p3) &&& p3)), (8, .int y34)] [5, 6, 7, 8, 9, 2, 1, 4, 0] rfl ?_
              exact ih_12 ((x12_7 - p3) &&& p3) r24 ((x12_7 - p3) &&& p3) y34 G26 (by omega) (by have h9 := ti_rng r24; omega) (by have h9 := ti_rng y34; omega) hI27 (gu_un.tr (gu_un.tr (gu_un.tr gu_un.rf (gu_un.su jU12 rfl)) (gu_un.su hU21 rfl)) (gu_un.su hU28 rfl)) (fun Q C h6 hl hq m1 m4 l0 l5 l6 => by obtain ⟨g1, g2, g3, g4, g5⟩ := bt Q C h6 hl hq m1 m4 l0 l5 l6; have en := nx_i (x := x12_7) (l := p3) g3 (by omega) (by omega) (by rw [e3]; exact g2); rw [e3] at en; have ns := sb_nx g2; have nle := sb.le ns; have et : nx 16 s3.toNat x12_7.toInt.toNat = (((x12_7 - p3) &&& p3) : Int32).toInt.toNat := (by omega); have nl := nx_lt g2 (by omega); rw [et] at ns nl nle; have rm := rk_mono g2 ns nl.1; have bw : ∀ u : Nat, btO s3.toNat s2.toNat u → x12_7.toInt.toNat < u → u < (((x12_7 - p3) &&& p3) : Int32).toInt.toNat → False := (fun u hu h1 h2 => by have h3 := nl.2 u hu.2.1 h1; omega); have bq := q13 (by omega) (by omega); have s66 : (G19 6 6).toInt = (((x12_7 - p3) &&& p3) : Int32).toInt := (by omega); have okt : btO s3.toNat s2.toNat (((x12_7 - p3) &&& p3) : Int32).toInt.toNat := ⟨by omega, ns, by omega⟩; have hd : dpR ((btP Q C (G 38) (G 5 2) s0 s1 p1) (((x12_7 - p3) &&& p3) : Int32).toInt.toNat) x12_6.toInt r24.toInt := q30 (Qt Q (((x12_7 - p3) &&& p3) : Int32).toInt.toNat) C (show xTok G19 from Or.inr ⟨by omega, by omega, by rw [s66, bt_tmct]; omega⟩) (lSp.un2 hl (show gu_un xcd [602, 603, 604, 605, 607, 608, 613, 614, 615, 616, 617, 618, 619, 620, 2100, 2400, 2700, 4400, 4500, 4600, 4700, 4800] G G19 from (gu_un.tr (gu_un.tr gu_un.rf (gu_un.su jU12 rfl)) (gu_un.su hU21 rfl))) rfl) (xSq.set hq (show gu_un xcd [602, 603, 604, 605, 607, 608, 613, 614, 615, 616, 617, 618, 619, 620, 2100, 2400, 2700, 4400, 4500, 4600, 4700, 4800] G G19 from (gu_un.tr (gu_un.tr gu_un.rf (gu_un.su jU12 rfl)) (gu_un.su hU21 rfl))) rfl s66 (by omega)); exact ⟨btR.gox (b' := (((x12_7 - p3) &&& p3) : Int32).toInt) (d' := r24.toInt) g1 okt (by omega) bw hd (by omega), ns, by omega, by omega, by omega⟩)
        · refine g_goto F 85 dX0_bestSet_34 (by decide) ?_
          refine g_aload_n F 1 dX0_bestSet_85 rfl rfl ?_
          refine xg_7_2 F i_X0 w_0 dX0_bestSet_86 ?_
          refine g_iconst F 0 dX0_bestSet_89 (by decide) ?_
          refine u_callVv (k := 0) (n := 0) (b := a 6) (As := [.int 0]) (st := []) F (fun sz => S_X5_useTeeth l D K a Gj12 0 0 rfl jI12 sz) (cwV 1 hts gX0_bestSet_X5_useTeeth rfl rfl rfl (by decide +kernel) ⟨Nat.le_of_ble_eq_true rfl, Nat.le_of_ble_eq_true rfl⟩) rfl 6 xc_6 rfl (Nat.le_of_ble_eq_true rfl) ⟨Nat.zero_le _, Nat.zero_le _⟩ dX0_bestSet_90 (fun G37 hw36 => ?_)
          have hI38 : xI G37 := hw36.1
          have hU39 : gu_un xcd [607] Gj12 G37 := hw36.2.1
          have hp40 := hw36.2.2
          have q41 : ((G37 6 6).toInt = (0 : Int)) := hp40
          clear hp40 hw36
          refine g_iload F 6 dX0_bestSet_93 rfl ?_
          exact u_iret F hA hQ hr G37 (⟨hI38, (gu_un.tr (gu_un.tr gu_un.rf (gu_un.su jU12 rfl)) (gu_un.su hU39 rfl)), (by show ((G37 6 6).toInt = 0); (first | omega | (simp only [Int32.reduceToInt, true_and, and_true, ne_eq, not_true_eq_false, false_and, or_false, false_or, true_or, or_true, false_implies] <;> omega))), (fun Q C h6 hl hq m1 m4 l0 l5 l6 => by obtain ⟨g1, g2, g3, g4, g5⟩ := bt Q C h6 hl hq m1 m4 l0 l5 l6; have en := nx_i (x := x12_7) (l := p3) g3 (by omega) (by omega) (by rw [e3]; exact g2); rw [e3] at en; have ns := sb_nx g2; have nle := sb.le ns; have et : nx 16 s3.toNat x12_7.toInt.toNat = (((x12_7 - p3) &&& p3) : Int32).toInt.toNat := (by omega); exact ⟨_, btR.skip g1 (sb.le g2) (fun u hu h1 h2 => by have h3 := nx_0 g2 (by omega) u hu.2.1; omega)⟩)⟩) rfl rfl dX0_bestSet_95
  refine g_iconst F (-1) dX0_bestSet_0 (by decide) ?_
  refine g_istore F [(5, .int (-1)), (0, .ref (a 7)), (1, .int p0), (2, .int p1), (3, .int p2), (4, .int p3)] dX0_bestSet_1 (by decide) rfl ?_
  refine g_iconst F 0 dX0_bestSet_3 (by decide) ?_
  refine g_istore F [(6, .int 0), (5, .int (-1)), (0, .ref (a 7)), (1, .int p0), (2, .int p1), (3, .int p2), (4, .int p3)] dX0_bestSet_4 (by decide) rfl ?_
  refine g_iconst F 0 dX0_bestSet_6 (by decide) ?_
  refine g_istore F [(7, .int 0), (6, .int 0), (5, .int (-1)), (0, .ref (a 7)), (1, .int p0), (2, .int p1), (3, .int p2), (4, .int p3)] dX0_bestSet_7 (by decide) rfl ?_
  refine g_iconst F 0 dX0_bestSet_9 (by decide) ?_
  refine g_istore F [(8, .int 0), (7, .int 0), (6, .int 0), (5, .int (-1)), (0, .ref (a 7)), (1, .int p0), (2, .int p1), (3, .int p2), (4, .int p3)] dX0_bestSet_10 (by decide) rfl ?_
  refine g_locals [(0, .ref (a 7)), (1, .int p0), (2, .int p1), (3, .int p2), (4, .int p3), (5, .int (-1)), (6, .int 0), (7, .int 0), (8, .int 0)] [4, 5, 6, 7, 8, 3, 2, 1, 0] rfl ?_
  exact J_12 _ (-1) 0 0 0 G (Nat.lt_succ_self _) (by decide) (by decide) hI gu_un.rf (fun Q C h6 hl hq m1 m4 l0 l5 l6 => by rw [show (Int32.toInt 0).toNat = 0 by decide]; exact ⟨btR.zero, sb.zero, by decide, by decide, by have h9 : Int32.toInt 0 = 0 := (by decide); omega⟩)


set_option maxHeartbeats 4000000 in
set_option maxRecDepth 100000 in
theorem S_J7_fill_53178_49 (l : Launch) (D : va_G) (K : Nat → ClassId) (a : Nat → Nat) (G : gS) (p1 : Int32) (s1 : Int) (e1 : p1.toInt = s1) (h1 : 0 ≤ s1 ∧ s1 ≤ 9) (hI : xI G) (sz : Nat) : Kv l yJ7_fill_53178 wsJ7_fill_53178 1 40 0 0 D [.ref (a 49), .int p1] (xW K a G) (tK K) sz (fun (G' : gS) => (xI G') ∧ (gu_un xcd [4900] G G') ∧ ((∀ q : Nat, q < 21 → G' 49 q = p1))) (fun (G' : gS) => (xW K a G')) (fun _ => (tK K)) := by
  unfold Kv
  refine g_ofW (cc := cJ7_fill_53178) (lv := [(0, .ref (a 49)), (1, .int p1)]) (by decide +kernel) rfl (Nat.le_of_ble_eq_true rfl) rfl ?_
  intro p e s m args below meth c A Q hA hQ F hr hnm
  have hts := F.2.2.2.2.1
  have J_5 : ∀ (fuel : Nat) (x5_2 : Int32) (Gj5 : gS), (2147483647 - x5_2.toInt).toNat < fuel → (0 ≤ x5_2.toInt ∧ x5_2.toInt ≤ 21) → (xI Gj5) → (gu_un xcd [4900] G Gj5) → (∀ q : Nat, (q : Int) < x5_2.toInt → Gj5 49 q = p1) → gG p l e (gR 1 0 0 40) s m args below meth c D A 4 Q 0 0 (xW K a Gj5) (tK K) [(0, .ref (a 49)), (1, .int p1), (2, .int x5_2), (3, .int 21)] 5 [] := by
    intro fuel
    induction fuel with
    | zero => intro x5_2 Gj5 hm; exact absurd hm (Nat.not_lt_zero _)
    | succ fuel_5 ih_5 =>
      intro x5_2 Gj5 hm_5 h5_2 jI5 jU5 fz
      refine g_iload_n F 2 dJ7_fill_53178_5 rfl rfl ?_
      refine g_iload_n F 3 dJ7_fill_53178_6 rfl rfl ?_
      refine v_icmp_ge F 20 dJ7_fill_53178_7 (by decide) x5_2.toInt 21 rfl rfl (fun c1 => ?_) (fun c1 => ?_)
      · exact u_vret F hA hQ hr Gj5 (⟨jI5, (gu_un.tr gu_un.rf (gu_un.su jU5 rfl)), (fun q hq => fz q (by omega))⟩) rfl rfl dJ7_fill_53178_20
      · refine g_aload_n F 0 dJ7_fill_53178_10 rfl rfl ?_
        refine g_iload_n F 2 dJ7_fill_53178_11 rfl rfl ?_
        refine g_iload_n F 1 dJ7_fill_53178_12 rfl rfl ?_
        refine u_iast F 49 0 xc_49 rfl x5_2.toInt rfl (by omega) (by omega) (xW K a (gu_up Gj5 49 (x5_2.toInt).toNat p1)) (xs_49 _) dJ7_fill_53178_13 ?_
        refine u_iinc F (fun v_ => [(2, .int v_), (0, .ref (a 49)), (1, .int p1), (3, .int 21)]) dJ7_fill_53178_14 (j := 2) rfl x5_2.toInt 1 rfl rfl (by omega) (by omega) (by decide) (fun _ => rfl) (fun y2 ey2 => ?_)
        refine g_goto F 5 dJ7_fill_53178_17 (by decide) ?_
        refine g_locals [(0, .ref (a 49)), (1, .int p1), (2, .int y2), (3, .int 21)] [1, 2, 0, 3] rfl ?_
        exact ih_5 y2 (gu_up Gj5 49 (x5_2.toInt).toNat p1) (by omega) (by have h9 := ti_rng y2; omega) (gu_I.up (j := 49) (k := (x5_2.toInt).toNat) (v := p1) jI5 (show (0 : Int) ≤ Int32.toInt p1 by omega) (show Int32.toInt p1 ≤ 9 by omega)) (gu_un.up (j := 49) (k := (x5_2.toInt).toNat) (v := p1) (gu_un.tr gu_un.rf (gu_un.su jU5 rfl)) (show (4900 : Nat) ∈ ([4900] : List Nat) by decide)) (pfill_1 (by omega) (by omega) fz)
  refine g_iconst F 0 dJ7_fill_53178_0 (by decide) ?_
  refine g_istore_n F [(2, .int 0), (0, .ref (a 49)), (1, .int p1)] dJ7_fill_53178_1 rfl (by decide) rfl ?_
  refine g_aload_n F 1 dJ7_fill_53178_2 rfl rfl ?_
  refine g_alen F 49 0 xc_49 rfl 21 rfl dJ7_fill_53178_3 ?_
  refine g_istore_n F [(3, .int 21), (2, .int 0), (0, .ref (a 49)), (1, .int p1)] dJ7_fill_53178_4 rfl (by decide) rfl ?_
  refine g_locals [(0, .ref (a 49)), (1, .int p1), (2, .int 0), (3, .int 21)] [2, 3, 1, 0] rfl ?_
  exact J_5 _ 0 G (Nat.lt_succ_self _) (by decide) hI gu_un.rf (fun q h1 => by have h2 : (q : Int) < 0 := h1; omega)

theorem dX0_findSpeeds_0 : decode cX0_findSpeeds 0 = .ok (.aload_n 0, 1) := by decide +kernel
theorem dX0_findSpeeds_1 : decode cX0_findSpeeds 1 = .ok (.getfield 9, 3) := by decide +kernel
theorem dX0_findSpeeds_4 : decode cX0_findSpeeds 4 = .ok (.iconst 0, 1) := by decide +kernel
theorem dX0_findSpeeds_5 : decode cX0_findSpeeds 5 = .ok (.invokestatic 98, 3) := by decide +kernel
theorem dX0_findSpeeds_8 : decode cX0_findSpeeds 8 = .ok (.iconst 1, 1) := by decide +kernel
theorem dX0_findSpeeds_9 : decode cX0_findSpeeds 9 = .ok (.istore_n 3, 1) := by decide +kernel
theorem dX0_findSpeeds_10 : decode cX0_findSpeeds 10 = .ok (.iload_n 3, 1) := by decide +kernel
theorem dX0_findSpeeds_11 : decode cX0_findSpeeds 11 = .ok (.iload_n 2, 1) := by decide +kernel
theorem dX0_findSpeeds_12 : decode cX0_findSpeeds 12 = .ok (.if_icmp .gt 59, 3) := by decide +kernel
theorem dX0_findSpeeds_15 : decode cX0_findSpeeds 15 = .ok (.iload_n 3, 1) := by decide +kernel
theorem dX0_findSpeeds_16 : decode cX0_findSpeeds 16 = .ok (.bipush 20, 2) := by decide +kernel
theorem dX0_findSpeeds_18 : decode cX0_findSpeeds 18 = .ok (.if_icmp .gt 53, 3) := by decide +kernel
theorem dX0_findSpeeds_21 : decode cX0_findSpeeds 21 = .ok (.iconst 1, 1) := by decide +kernel
theorem dX0_findSpeeds_22 : decode cX0_findSpeeds 22 = .ok (.istore 4, 2) := by decide +kernel
theorem dX0_findSpeeds_24 : decode cX0_findSpeeds 24 = .ok (.iload 4, 2) := by decide +kernel
theorem dX0_findSpeeds_26 : decode cX0_findSpeeds 26 = .ok (.bipush 9, 2) := by decide +kernel
theorem dX0_findSpeeds_28 : decode cX0_findSpeeds 28 = .ok (.if_icmp .gt 37, 3) := by decide +kernel
theorem dX0_findSpeeds_31 : decode cX0_findSpeeds 31 = .ok (.aload_n 0, 1) := by decide +kernel
theorem dX0_findSpeeds_32 : decode cX0_findSpeeds 32 = .ok (.getfield 9, 3) := by decide +kernel
theorem dX0_findSpeeds_35 : decode cX0_findSpeeds 35 = .ok (.iload_n 3, 1) := by decide +kernel
theorem dX0_findSpeeds_36 : decode cX0_findSpeeds 36 = .ok (.iaload, 1) := by decide +kernel
theorem dX0_findSpeeds_37 : decode cX0_findSpeeds 37 = .ok (.ifCond .ne 28, 3) := by decide +kernel
theorem dX0_findSpeeds_40 : decode cX0_findSpeeds 40 = .ok (.aload_n 0, 1) := by decide +kernel
theorem dX0_findSpeeds_41 : decode cX0_findSpeeds 41 = .ok (.iload_n 1, 1) := by decide +kernel
theorem dX0_findSpeeds_42 : decode cX0_findSpeeds 42 = .ok (.iload 4, 2) := by decide +kernel
theorem dX0_findSpeeds_44 : decode cX0_findSpeeds 44 = .ok (.iload_n 3, 1) := by decide +kernel
theorem dX0_findSpeeds_45 : decode cX0_findSpeeds 45 = .ok (.invokevirtual 60, 3) := by decide +kernel
theorem dX0_findSpeeds_48 : decode cX0_findSpeeds 48 = .ok (.ifCond .eq 11, 3) := by decide +kernel
theorem dX0_findSpeeds_51 : decode cX0_findSpeeds 51 = .ok (.aload_n 0, 1) := by decide +kernel
theorem dX0_findSpeeds_52 : decode cX0_findSpeeds 52 = .ok (.getfield 9, 3) := by decide +kernel
theorem dX0_findSpeeds_55 : decode cX0_findSpeeds 55 = .ok (.iload_n 3, 1) := by decide +kernel
theorem dX0_findSpeeds_56 : decode cX0_findSpeeds 56 = .ok (.iload 4, 2) := by decide +kernel
theorem dX0_findSpeeds_58 : decode cX0_findSpeeds 58 = .ok (.iastore, 1) := by decide +kernel
theorem dX0_findSpeeds_59 : decode cX0_findSpeeds 59 = .ok (.iinc 4 1, 3) := by decide +kernel
theorem dX0_findSpeeds_62 : decode cX0_findSpeeds 62 = .ok (.goto (-38), 3) := by decide +kernel
theorem dX0_findSpeeds_65 : decode cX0_findSpeeds 65 = .ok (.iinc 3 1, 3) := by decide +kernel
theorem dX0_findSpeeds_68 : decode cX0_findSpeeds 68 = .ok (.goto (-58), 3) := by decide +kernel
theorem dX0_findSpeeds_71 : decode cX0_findSpeeds 71 = .ok (.return_, 1) := by decide +kernel
set_option maxRecDepth 20000 in
theorem ggX0_findSpeeds_J7_fill_53178 : GoodIn wsX0_findSpeeds wsJ7_fill_53178 := goodIn_r _ [5] rfl (by decide +kernel)
set_option maxRecDepth 20000 in
theorem gX0_findSpeeds_J7_fill_53178 : GoodIn wsX0_findSpeeds (va_wsS RX0 98 yJ7_fill_53178 wsJ7_fill_53178) := goodIn_app (goodIn_of _ (by decide +kernel)) ggX0_findSpeeds_J7_fill_53178
set_option maxRecDepth 20000 in
theorem ggX0_findSpeeds_X0_isQuietForAll : GoodIn wsX0_findSpeeds wsX0_isQuietForAll := goodIn_r _ [10, 11, 12, 13, 14, 15, 16, 17, 18, 19, 20, 21, 22, 23, 24, 25, 26, 27, 28, 29, 30, 31, 32, 33, 34, 35, 36, 37, 38, 39, 40, 41, 42, 43, 44, 45, 46, 47, 48, 49, 50, 51, 52, 53, 54, 55, 56, 57, 58, 59, 60, 61, 62, 63, 64, 65, 66, 67, 68, 69, 70, 71, 72, 73, 74, 75, 76, 77, 78, 79, 80, 81, 82, 83, 84, 85, 86, 87, 3, 4, 5, 88, 89, 90, 91, 92, 93, 94, 95, 96, 97, 98, 99, 100, 101, 102, 103, 104, 105, 106, 107, 108, 109, 110, 111, 112, 113, 114, 115, 116, 117, 118, 119, 120, 121, 122, 123, 124, 125, 126, 127, 128, 129, 130, 131, 132, 133, 134, 135, 136, 137, 138, 139, 140, 141, 142, 143, 144, 145, 146, 147, 148, 149, 150, 151, 152, 153, 154, 155, 156, 157, 158, 159, 160, 161, 162, 163, 164, 165, 166, 167, 168, 169, 170, 171] rfl (by decide +kernel)
set_option maxRecDepth 20000 in
theorem gX0_findSpeeds_X0_isQuietForAll : GoodIn wsX0_findSpeeds (wsV RX0 60 RX0 yX0_isQuietForAll wsX0_isQuietForAll) := goodIn_app (goodIn_of _ (by decide +kernel)) ggX0_findSpeeds_X0_isQuietForAll
set_option maxHeartbeats 4000000 in
set_option maxRecDepth 100000 in
theorem S_X0_findSpeeds (l : Launch) (D : va_G) (K : Nat → ClassId) (a : Nat → Nat) (G : gS) (p0 : Int32) (s0 : Int) (p1 : Int32) (s1 : Int) (e0 : p0.toInt = s0) (e1 : p1.toInt = s1) (h1 : 0 ≤ s1 ∧ s1 ≤ 20) (hI : xI G) (sz : Nat) : Kv l yX0_findSpeeds wsX0_findSpeeds 6 173 0 0 D [.ref (a 7), .int p0, .int p1] (xW K a G) (tK K) sz (fun (G' : gS) => (xI G') ∧ (gu_un xcd [602, 603, 604, 605, 608, 613, 614, 615, 616, 617, 618, 619, 620, 2100, 2400, 2700, 4400, 4500, 4600, 4700, 4800, 4900] G G') ∧ ((∀ (Q : gS) (C : Nat → List Int), xTok G → lSp G → xSq G Q C → clS (bsP Q C (G 38) (G 5 2) s0) (fun f => (G' 49 f).toInt) (s1).toNat ∧ ∀ f : Nat, s1 < (f : Int) → f ≤ 20 → (G' 49 f).toInt = 0))) (fun (G' : gS) => (xW K a G')) (fun _ => (tK K)) := by
  unfold Kv
  refine g_ofW (cc := cX0_findSpeeds) (lv := [(0, .ref (a 7)), (1, .int p0), (2, .int p1)]) (by decide) rfl (Nat.le_of_ble_eq_true rfl) rfl ?_
  intro p e s m args below meth c A Q hA hQ F hr hnm
  have hts := F.2.2.2.2.1
  have w_0 : (Cond.fieldLink RX0 9 "QuietCut$Chooser" "speedOf" "[I").before args s = true := hts _ (List.mem_of_getElem? (i := 1) rfl)
  have i_X0 : ∀ w ∈ u_ws RX0 TX0 8, w ∈ wsX0_findSpeeds := fun _ h => List.mem_cons_of_mem _ (List.mem_append_left _ (List.mem_append_left _ (List.mem_append_left _ (List.mem_append_left _ (List.mem_append_right _ h)))))
  have rg0 : -2147483648 ≤ s0 ∧ s0 ≤ 2147483647 := e0 ▸ ti_rng p0
  have J_10 : ∀ (fuel : Nat) (x10_3 : Int32) (Gj10 : gS), (2147483647 - x10_3.toInt).toNat < fuel → (1 ≤ x10_3.toInt ∧ x10_3.toInt ≤ 21) → (xI Gj10) → (gu_un xcd [602, 603, 604, 605, 608, 613, 614, 615, 616, 617, 618, 619, 620, 2100, 2400, 2700, 4400, 4500, 4600, 4700, 4800, 4900] G Gj10) → (∀ (Q : gS) (C : Nat → List Int), xTok G → lSp G → xSq G Q C → (∀ f : Int, 1 ≤ f → f < x10_3.toInt → f ≤ 20 → (((Gj10 49 (f).toNat).toInt = 0 ∧ ∀ s : Int, 1 ≤ s → s ≤ 9 → ¬ (bsP Q C (G 38) (G 5 2) s0) s (f)) ∨ (1 ≤ (Gj10 49 (f).toNat).toInt ∧ (Gj10 49 (f).toNat).toInt ≤ 9 ∧ (bsP Q C (G 38) (G 5 2) s0) ((Gj10 49 (f).toNat).toInt) (f) ∧ ∀ s : Int, 1 ≤ s → s < (Gj10 49 (f).toNat).toInt → ¬ (bsP Q C (G 38) (G 5 2) s0) s (f)))) ∧ ∀ f : Int, x10_3.toInt ≤ f → 0 ≤ f → f ≤ 20 → (Gj10 49 f.toNat).toInt = 0) → ((x10_3.toInt ≤ s1 + 1)) → gG p l e (gR 6 0 0 173) s m args below meth c D A 5 Q 0 0 (xW K a Gj10) (tK K) [(0, .ref (a 7)), (1, .int p0), (2, .int p1), (3, .int x10_3)] 10 [] := by
    intro fuel
    induction fuel with
    | zero => intro x10_3 Gj10 hm; exact absurd hm (Nat.not_lt_zero _)
    | succ fuel_10 ih_10 =>
      intro x10_3 Gj10 hm_10 h10_3 jI10 jU10 f1 sx
      have J_24 : ∀ (fuel : Nat) (x24_4 : Int32) (Gj24 : gS), (2147483647 - x24_4.toInt).toNat < fuel → (1 ≤ s1 ∧ s1 ≤ 20) → (1 ≤ x10_3.toInt ∧ x10_3.toInt ≤ 20) → (1 ≤ x24_4.toInt ∧ x24_4.toInt ≤ 10) → (xI Gj24) → (gu_un xcd [602, 603, 604, 605, 608, 613, 614, 615, 616, 617, 618, 619, 620, 2100, 2400, 2700, 4400, 4500, 4600, 4700, 4800, 4900] Gj10 Gj24) → (∀ (Q : gS) (C : Nat → List Int), xTok G → lSp G → xSq G Q C → (∀ f : Int, 1 ≤ f → f < x10_3.toInt → f ≤ 20 → (((Gj24 49 (f).toNat).toInt = 0 ∧ ∀ s : Int, 1 ≤ s → s ≤ 9 → ¬ (bsP Q C (G 38) (G 5 2) s0) s (f)) ∨ (1 ≤ (Gj24 49 (f).toNat).toInt ∧ (Gj24 49 (f).toNat).toInt ≤ 9 ∧ (bsP Q C (G 38) (G 5 2) s0) ((Gj24 49 (f).toNat).toInt) (f) ∧ ∀ s : Int, 1 ≤ s → s < (Gj24 49 (f).toNat).toInt → ¬ (bsP Q C (G 38) (G 5 2) s0) s (f)))) ∧ (∀ f : Int, x10_3.toInt < f → f ≤ 20 → (Gj24 49 f.toNat).toInt = 0) ∧ (((Gj24 49 (x10_3.toInt).toNat).toInt = 0 ∧ ∀ s : Int, 1 ≤ s → s < x24_4.toInt → ¬ (bsP Q C (G 38) (G 5 2) s0) s (x10_3.toInt)) ∨ (1 ≤ (Gj24 49 (x10_3.toInt).toNat).toInt ∧ (Gj24 49 (x10_3.toInt).toNat).toInt ≤ 9 ∧ (bsP Q C (G 38) (G 5 2) s0) ((Gj24 49 (x10_3.toInt).toNat).toInt) (x10_3.toInt) ∧ ∀ s : Int, 1 ≤ s → s < (Gj24 49 (x10_3.toInt).toNat).toInt → ¬ (bsP Q C (G 38) (G 5 2) s0) s (x10_3.toInt)))) → ((x10_3.toInt ≤ s1)) → gG p l e (gR 6 0 0 173) s m args below meth c D A 5 Q 0 0 (xW K a Gj24) (tK K) [(0, .ref (a 7)), (1, .int p0), (2, .int p1), (3, .int x10_3), (4, .int x24_4)] 24 [] := by
        intro fuel
        induction fuel with
        | zero => intro x24_4 Gj24 hm; exact absurd hm (Nat.not_lt_zero _)
        | succ fuel_24 ih_24 =>
          intro x24_4 Gj24 hm_24 k24_2 k24_3 h24_4 jI24 jU24 f2 sx
          refine g_iload F 4 dX0_findSpeeds_24 rfl ?_
          refine g_bipush F 9 dX0_findSpeeds_26 (by decide) ?_
          refine v_icmp_gt F 65 dX0_findSpeeds_28 (by decide) x24_4.toInt 9 rfl rfl (fun c1 => ?_) (fun c1 => ?_)
          · refine u_iinc F (fun v_ => [(3, .int v_), (0, .ref (a 7)), (1, .int p0), (2, .int p1), (4, .int x24_4)]) dX0_findSpeeds_65 (j := 3) rfl x10_3.toInt 1 rfl rfl (by omega) (by omega) (by decide) (fun _ => rfl) (fun y2 ey2 => ?_)
            refine g_goto F 10 dX0_findSpeeds_68 (by decide) ?_
            refine g_locals [(0, .ref (a 7)), (1, .int p0), (2, .int p1), (3, .int y2)] [1, 2, 3, 0] rfl ?_
            exact ih_10 y2 Gj24 (by omega) (by have h9 := ti_rng y2; omega) jI24 (gu_un.tr (gu_un.tr gu_un.rf (gu_un.su jU10 rfl)) (gu_un.su jU24 rfl)) (fun Q C hk hl hq => by obtain ⟨g1, g2, g3⟩ := f2 Q C hk hl hq; exact ⟨fun f h1 h2 h3 => by by_cases e9 : f = x10_3.toInt <;> first | (rw [e9]; rcases g3 with ⟨a1, a2⟩ | a2 <;> first | exact Or.inl ⟨a1, fun s b1 b2 => a2 s b1 (by omega)⟩ | exact Or.inr a2) | exact g1 f h1 (by omega) h3, fun f h1 h2 h3 => g2 f (by omega) h3⟩) (by (first | omega | (simp only [Int32.reduceToInt, true_and, and_true, ne_eq, not_true_eq_false, false_and, or_false, false_or, true_or, or_true, false_implies] <;> omega)))
          · refine g_aload_n F 0 dX0_findSpeeds_31 rfl rfl ?_
            refine xg_7_3 F i_X0 w_0 dX0_findSpeeds_32 ?_
            refine g_iload_n F 3 dX0_findSpeeds_35 rfl rfl ?_
            refine u1_iald F 49 0 xc_49 rfl x10_3.toInt rfl (by omega) (by omega) dX0_findSpeeds_36 ((Gj24 49) (x10_3.toInt).toNat) (rfl) ?_
            have b3 : (0 : Int) ≤ ((Gj24 49) (x10_3.toInt).toNat).toInt ∧ ((Gj24 49) (x10_3.toInt).toNat).toInt ≤ 9 := jI24 49 _
            refine v_if_ne F 65 dX0_findSpeeds_37 (by decide) ((Gj24 49) (x10_3.toInt).toNat).toInt rfl (fun c4 => ?_) (fun c4 => ?_)
            · refine u_iinc F (fun v_ => [(3, .int v_), (0, .ref (a 7)), (1, .int p0), (2, .int p1), (4, .int x24_4)]) dX0_findSpeeds_65 (j := 3) rfl x10_3.toInt 1 rfl rfl (by omega) (by omega) (by decide) (fun _ => rfl) (fun y5 ey5 => ?_)
              refine g_goto F 10 dX0_findSpeeds_68 (by decide) ?_
              refine g_locals [(0, .ref (a 7)), (1, .int p0), (2, .int p1), (3, .int y5)] [1, 2, 3, 0] rfl ?_
              exact ih_10 y5 Gj24 (by omega) (by have h9 := ti_rng y5; omega) jI24 (gu_un.tr (gu_un.tr gu_un.rf (gu_un.su jU10 rfl)) (gu_un.su jU24 rfl)) (fun Q C hk hl hq => by obtain ⟨g1, g2, g3⟩ := f2 Q C hk hl hq; exact ⟨fun f h1 h2 h3 => by by_cases e9 : f = x10_3.toInt <;> first | (rw [e9]; rcases g3 with ⟨a1, a2⟩ | a2 <;> first | exact Or.inl ⟨a1, fun s b1 b2 => a2 s b1 (by omega)⟩ | exact Or.inr a2) | exact g1 f h1 (by omega) h3, fun f h1 h2 h3 => g2 f (by omega) h3⟩) (by (first | omega | (simp only [Int32.reduceToInt, true_and, and_true, ne_eq, not_true_eq_false, false_and, or_false, false_or, true_or, or_true, false_implies] <;> omega)))
            · refine g_aload_n F 0 dX0_findSpeeds_40 rfl rfl ?_
              refine g_iload_n F 1 dX0_findSpeeds_41 rfl rfl ?_
              refine g_iload F 4 dX0_findSpeeds_42 rfl ?_
              refine g_iload_n F 3 dX0_findSpeeds_44 rfl rfl ?_
              refine u_callVi (k := 0) (n := 0) (b := a 7) (As := [.int p0, .int x24_4, .int x10_3]) (st := []) F (fun sz => S_X0_isQuietForAll l D K a Gj24 p0 s0 x24_4 x24_4.toInt x10_3 x10_3.toInt e0 rfl rfl jI24 sz) (cwV 3 hts gX0_findSpeeds_X0_isQuietForAll rfl rfl rfl (by decide +kernel) ⟨Nat.le_of_ble_eq_true rfl, Nat.le_of_ble_eq_true rfl⟩) rfl 7 xc_7 rfl (Nat.le_of_ble_eq_true rfl) ⟨Nat.zero_le _, Nat.zero_le _⟩ dX0_findSpeeds_45 (fun r6 G8 hw7 => ?_)
              have hI9 : xI G8 := hw7.1
              have hU10 : gu_un xcd [602, 603, 604, 605, 608, 613, 614, 615, 616, 617, 618, 619, 620, 2100, 2400, 2700, 4400, 4500, 4600, 4700, 4800] Gj24 G8 := hw7.2.1
              have hp11 := hw7.2.2
              have q12 : (∀ (Q : gS) (C : Nat → List Int), xTok Gj24 → lSp Gj24 → xSq Gj24 Q C → ((r6.toInt = 1 ∧ (pvAr Q s0 x24_4.toInt x10_3.toInt ∧ pvA Q C (G 38) (G 5 2) s0 x24_4 x10_3 (Q 0 9))) ∨ (r6.toInt = 0 ∧ ¬ (pvAr Q s0 x24_4.toInt x10_3.toInt ∧ pvA Q C (G 38) (G 5 2) s0 x24_4 x10_3 (Q 0 9))))) := by have h9 := hp11.2; (try simp only [(show Gj24 38 = (G 38) from (show Gj24 38 = Gj10 38 from funext fun k_ => jU24 38 k_ (show (3800 : Nat) ∉ ([602, 603, 604, 605, 608, 613, 614, 615, 616, 617, 618, 619, 620, 2100, 2400, 2700, 4400, 4500, 4600, 4700, 4800, 4900] : List Nat) by decide)).trans ((show Gj10 38 = G 38 from funext fun k_ => jU10 38 k_ (show (3800 : Nat) ∉ ([602, 603, 604, 605, 608, 613, 614, 615, 616, 617, 618, 619, 620, 2100, 2400, 2700, 4400, 4500, 4600, 4700, 4800, 4900] : List Nat) by decide)))), (show Gj24 38 = (G 38) from (show Gj24 38 = Gj10 38 from funext fun k_ => jU24 38 k_ (show (3800 : Nat) ∉ ([602, 603, 604, 605, 608, 613, 614, 615, 616, 617, 618, 619, 620, 2100, 2400, 2700, 4400, 4500, 4600, 4700, 4800, 4900] : List Nat) by decide)).trans ((show Gj10 38 = G 38 from funext fun k_ => jU10 38 k_ (show (3800 : Nat) ∉ ([602, 603, 604, 605, 608, 613, 614, 615, 616, 617, 618, 619, 620, 2100, 2400, 2700, 4400, 4500, 4600, 4700, 4800, 4900] : List Nat) by decide)))), (show Gj24 5 2 = (G 5 2) from (jU24 5 2 (by decide)).trans (jU10 5 2 (by decide))), (show Gj24 5 2 = (G 5 2) from (jU24 5 2 (by decide)).trans (jU10 5 2 (by decide)))] at h9); first | exact h9 | omega
              have rg13 := hp11.1
              clear hp11 hw7
              refine v_if_eq F 59 dX0_findSpeeds_48 (by decide) r6.toInt rfl (fun c14 => ?_) (fun c14 => ?_)
              · refine u_iinc F (fun v_ => [(4, .int v_), (0, .ref (a 7)), (1, .int p0), (2, .int p1), (3, .int x10_3)]) dX0_findSpeeds_59 (j := 4) rfl x24_4.toInt 1 rfl rfl (by omega) (by omega) (by decide) (fun _ => rfl) (fun y15 ey15 => ?_)
                refine g_goto F 24 dX0_findSpeeds_62 (by decide) ?_
                refine g_locals [(0, .ref (a 7)), (1, .int p0), (2, .int p1), (3, .int x10_3), (4, .int y15)] [1, 2, 3, 4, 0] rfl ?_
                exact ih_24 y15 G8 (by omega) (by have h9 := ti_rng p1; omega) (by have h9 := ti_rng x10_3; omega) (by have h9 := ti_rng y15; omega) hI9 (gu_un.tr (gu_un.tr gu_un.rf (gu_un.su jU24 rfl)) (gu_un.su hU10 rfl)) (fun Q C hk hl hq => by obtain ⟨g1, g2, g3⟩ := f2 Q C hk hl hq; have qa := q12 Q C (xTok.un hk (show gu_un xcd [602, 603, 604, 605, 608, 613, 614, 615, 616, 617, 618, 619, 620, 2100, 2400, 2700, 4400, 4500, 4600, 4700, 4800, 4900] G Gj24 from (gu_un.tr (gu_un.tr gu_un.rf (gu_un.su jU10 rfl)) (gu_un.su jU24 rfl))) rfl) (lSp.un hl (show gu_un xcd [602, 603, 604, 605, 608, 613, 614, 615, 616, 617, 618, 619, 620, 2100, 2400, 2700, 4400, 4500, 4600, 4700, 4800, 4900] G Gj24 from (gu_un.tr (gu_un.tr gu_un.rf (gu_un.su jU10 rfl)) (gu_un.su jU24 rfl))) rfl) (xSq.un hq (show gu_un xcd [602, 603, 604, 605, 608, 613, 614, 615, 616, 617, 618, 619, 620, 2100, 2400, 2700, 4400, 4500, 4600, 4700, 4800, 4900] G Gj24 from (gu_un.tr (gu_un.tr gu_un.rf (gu_un.su jU10 rfl)) (gu_un.su jU24 rfl))) rfl); have rw9 : G8 49 = Gj24 49 := (show G8 49 = Gj24 49 from funext fun k_ => (show gu_un xcd [602, 603, 604, 605, 608, 613, 614, 615, 616, 617, 618, 619, 620, 2100, 2400, 2700, 4400, 4500, 4600, 4700, 4800] Gj24 G8 from (gu_un.tr gu_un.rf (gu_un.su hU10 rfl))) 49 k_ (by simp [xcd])); have pp : ∀ h : Prop, h = (pvAr Q s0 x24_4.toInt x10_3.toInt ∧ pvA Q C (G 38) (G 5 2) s0 x24_4 x10_3 (Q 0 9)) → ((bsP Q C (G 38) (G 5 2) s0) x24_4.toInt x10_3.toInt ↔ h) := (fun h e => by rw [e]; unfold bsP; rw [Int32.ofInt_toInt, Int32.ofInt_toInt]); rw [rw9]; refine ⟨g1, g2, ?_⟩; rcases qa with ⟨a1, a2⟩ | ⟨a1, a2⟩ <;> first | (exfalso; omega) | (rcases g3 with ⟨c1, c2⟩ | ⟨c1, c2⟩ <;> first | (exfalso; omega) | exact Or.inl ⟨c1, fun s b1 b2 => by by_cases e9 : s = x24_4.toInt <;> first | (rw [e9]; exact fun z => a2 ((pp _ rfl).mp z)) | exact c2 s b1 (by omega)⟩)) (by (first | omega | (simp only [Int32.reduceToInt, true_and, and_true, ne_eq, not_true_eq_false, false_and, or_false, false_or, true_or, or_true, false_implies] <;> omega)))
              · refine g_aload_n F 0 dX0_findSpeeds_51 rfl rfl ?_
                refine xg_7_3 F i_X0 w_0 dX0_findSpeeds_52 ?_
                refine g_iload_n F 3 dX0_findSpeeds_55 rfl rfl ?_
                refine g_iload F 4 dX0_findSpeeds_56 rfl ?_
                refine u_iast F 49 0 xc_49 rfl x10_3.toInt rfl (by omega) (by omega) (xW K a (gu_up G8 49 (x10_3.toInt).toNat x24_4)) (xs_49 _) dX0_findSpeeds_58 ?_
                refine u_iinc F (fun v_ => [(4, .int v_), (0, .ref (a 7)), (1, .int p0), (2, .int p1), (3, .int x10_3)]) dX0_findSpeeds_59 (j := 4) rfl x24_4.toInt 1 rfl rfl (by omega) (by omega) (by decide) (fun _ => rfl) (fun y16 ey16 => ?_)
                refine g_goto F 24 dX0_findSpeeds_62 (by decide) ?_
                refine g_locals [(0, .ref (a 7)), (1, .int p0), (2, .int p1), (3, .int x10_3), (4, .int y16)] [1, 2, 3, 4, 0] rfl ?_
                exact ih_24 y16 (gu_up G8 49 (x10_3.toInt).toNat x24_4) (by omega) (by have h9 := ti_rng p1; omega) (by have h9 := ti_rng x10_3; omega) (by have h9 := ti_rng y16; omega) (gu_I.up (j := 49) (k := (x10_3.toInt).toNat) (v := x24_4) hI9 (show (0 : Int) ≤ Int32.toInt x24_4 by omega) (show Int32.toInt x24_4 ≤ 9 by omega)) (gu_un.up (j := 49) (k := (x10_3.toInt).toNat) (v := x24_4) (gu_un.tr (gu_un.tr gu_un.rf (gu_un.su jU24 rfl)) (gu_un.su hU10 rfl)) (show (4900 : Nat) ∈ ([602, 603, 604, 605, 608, 613, 614, 615, 616, 617, 618, 619, 620, 2100, 2400, 2700, 4400, 4500, 4600, 4700, 4800, 4900] : List Nat) by decide)) (fun Q C hk hl hq => by obtain ⟨g1, g2, g3⟩ := f2 Q C hk hl hq; have qa := q12 Q C (xTok.un hk (show gu_un xcd [602, 603, 604, 605, 608, 613, 614, 615, 616, 617, 618, 619, 620, 2100, 2400, 2700, 4400, 4500, 4600, 4700, 4800, 4900] G Gj24 from (gu_un.tr (gu_un.tr gu_un.rf (gu_un.su jU10 rfl)) (gu_un.su jU24 rfl))) rfl) (lSp.un hl (show gu_un xcd [602, 603, 604, 605, 608, 613, 614, 615, 616, 617, 618, 619, 620, 2100, 2400, 2700, 4400, 4500, 4600, 4700, 4800, 4900] G Gj24 from (gu_un.tr (gu_un.tr gu_un.rf (gu_un.su jU10 rfl)) (gu_un.su jU24 rfl))) rfl) (xSq.un hq (show gu_un xcd [602, 603, 604, 605, 608, 613, 614, 615, 616, 617, 618, 619, 620, 2100, 2400, 2700, 4400, 4500, 4600, 4700, 4800, 4900] G Gj24 from (gu_un.tr (gu_un.tr gu_un.rf (gu_un.su jU10 rfl)) (gu_un.su jU24 rfl))) rfl); have rw9 : G8 49 = Gj24 49 := (show G8 49 = Gj24 49 from funext fun k_ => (show gu_un xcd [602, 603, 604, 605, 608, 613, 614, 615, 616, 617, 618, 619, 620, 2100, 2400, 2700, 4400, 4500, 4600, 4700, 4800] Gj24 G8 from (gu_un.tr gu_un.rf (gu_un.su hU10 rfl))) 49 k_ (by simp [xcd])); have pp : ∀ h : Prop, h = (pvAr Q s0 x24_4.toInt x10_3.toInt ∧ pvA Q C (G 38) (G 5 2) s0 x24_4 x10_3 (Q 0 9)) → ((bsP Q C (G 38) (G 5 2) s0) x24_4.toInt x10_3.toInt ↔ h) := (fun h e => by rw [e]; unfold bsP; rw [Int32.ofInt_toInt, Int32.ofInt_toInt]); have o9 : ∀ f : Int, 0 ≤ f → f ≠ x10_3.toInt → (gu_up G8 49 (x10_3.toInt).toNat x24_4) 49 f.toNat = Gj24 49 f.toNat := (fun f h0 hf => by show upd (G8 49) _ x24_4 _ = _; unfold upd; rw [if_neg (by omega), rw9]); refine ⟨fun f h1 h2 h3 => by rw [o9 f (by omega) (by omega)]; exact g1 f h1 h2 h3, fun f h1 h2 => by rw [o9 f (by omega) (by omega)]; exact g2 f h1 h2, ?_⟩; rw [(show (gu_up G8 49 (x10_3.toInt).toNat x24_4) 49 (x10_3.toInt).toNat = x24_4 from by show upd (G8 49) _ x24_4 _ = _; exact if_pos rfl)]; rcases qa with ⟨a1, a2⟩ | ⟨a1, a2⟩ <;> first | (exfalso; omega) | (rcases g3 with ⟨c1, c2⟩ | ⟨c1, c2⟩ <;> first | (exfalso; omega) | exact Or.inr ⟨by omega, by omega, (pp _ rfl).mpr a2, fun s b1 b2 => c2 s b1 b2⟩)) (by (first | omega | (simp only [Int32.reduceToInt, true_and, and_true, ne_eq, not_true_eq_false, false_and, or_false, false_or, true_or, or_true, false_implies] <;> omega)))
      refine g_iload_n F 3 dX0_findSpeeds_10 rfl rfl ?_
      refine g_iload_n F 2 dX0_findSpeeds_11 rfl rfl ?_
      refine v_icmp_gt F 71 dX0_findSpeeds_12 (by decide) x10_3.toInt s1 rfl e1 (fun c17 => ?_) (fun c17 => ?_)
      · exact u_vret F hA hQ hr Gj10 (⟨jI10, (gu_un.tr gu_un.rf (gu_un.su jU10 rfl)), (fun Q C hk hl hq => by obtain ⟨g1, g2⟩ := f1 Q C hk hl hq; exact ⟨fun f h1 h2 h3 => by have k := g1 (f : Int) (by omega) (by omega) (by omega); exact k, fun f h1 h2 => g2 (f : Int) (by omega) (by omega) (by omega)⟩)⟩) rfl rfl dX0_findSpeeds_71
      · refine g_iload_n F 3 dX0_findSpeeds_15 rfl rfl ?_
        refine g_bipush F 20 dX0_findSpeeds_16 (by decide) ?_
        refine v_icmp_gt F 71 dX0_findSpeeds_18 (by decide) x10_3.toInt 20 rfl rfl (fun c18 => absurd c18 (by omega)) (fun c18 => ?_)
        refine g_iconst F 1 dX0_findSpeeds_21 (by decide) ?_
        refine g_istore F [(4, .int 1), (0, .ref (a 7)), (1, .int p0), (2, .int p1), (3, .int x10_3)] dX0_findSpeeds_22 (by decide) rfl ?_
        refine g_locals [(0, .ref (a 7)), (1, .int p0), (2, .int p1), (3, .int x10_3), (4, .int 1)] [1, 2, 3, 4, 0] rfl ?_
        exact J_24 _ 1 Gj10 (Nat.lt_succ_self _) (by have h9 := ti_rng p1; omega) (by have h9 := ti_rng x10_3; omega) (by decide) jI10 gu_un.rf (fun Q C hk hl hq => by obtain ⟨g1, g2⟩ := f1 Q C hk hl hq; exact ⟨g1, fun f h1 h2 => g2 f (by omega) (by omega) h2, Or.inl ⟨g2 _ (by omega) (by omega) (by omega), fun s b1 b2 => by have b3 : s < 1 := b2; omega⟩⟩) (by (first | omega | (simp only [Int32.reduceToInt, true_and, and_true, ne_eq, not_true_eq_false, false_and, or_false, false_or, true_or, or_true, false_implies] <;> omega)))
  refine g_aload_n F 0 dX0_findSpeeds_0 rfl rfl ?_
  refine xg_7_3 F i_X0 w_0 dX0_findSpeeds_1 ?_
  refine g_iconst F 0 dX0_findSpeeds_4 (by decide) ?_
  refine u_callSv (k := 0) (n := 0) (As := [.ref (a 49), .int 0]) (st := []) F (fun sz => S_J7_fill_53178_49 l D K a G 0 0 rfl (by decide) hI sz) (va_cwS 2 hts gX0_findSpeeds_J7_fill_53178 rfl rfl rfl (by decide +kernel) ⟨Nat.le_of_ble_eq_true rfl, Nat.le_of_ble_eq_true rfl⟩) rfl (Nat.le_of_ble_eq_true rfl) ⟨Nat.zero_le _, Nat.zero_le _⟩ dX0_findSpeeds_5 (fun G21 hw20 => ?_)
  have hI22 : xI G21 := hw20.1
  have hU23 : gu_un xcd [4900] G G21 := hw20.2.1
  have hp24 := hw20.2.2
  have q25 : (∀ q : Nat, q < 21 → G21 49 q = 0) := hp24
  clear hp24 hw20
  refine g_iconst F 1 dX0_findSpeeds_8 (by decide) ?_
  refine g_istore_n F [(3, .int 1), (0, .ref (a 7)), (1, .int p0), (2, .int p1)] dX0_findSpeeds_9 rfl (by decide) rfl ?_
  refine g_locals [(0, .ref (a 7)), (1, .int p0), (2, .int p1), (3, .int 1)] [1, 2, 3, 0] rfl ?_
  exact J_10 _ 1 G21 (Nat.lt_succ_self _) (by decide) hI22 (gu_un.tr gu_un.rf (gu_un.su hU23 rfl)) (fun Q C hk hl hq => ⟨fun f h1 h2 _ => by have h3 : f < 1 := h2; omega, fun f h1 h2 h3 => by rw [q25 _ (by omega)]; rfl⟩) (by (first | omega | (simp only [Int32.reduceToInt, true_and, and_true, ne_eq, not_true_eq_false, false_and, or_false, false_or, true_or, or_true, false_implies] <;> omega)))

theorem dX0_feedOf_0 : decode cX0_feedOf 0 = .ok (.iload_n 0, 1) := by decide +kernel
theorem dX0_feedOf_1 : decode cX0_feedOf 1 = .ok (.iconst 1, 1) := by decide +kernel
theorem dX0_feedOf_2 : decode cX0_feedOf 2 = .ok (.isub, 1) := by decide +kernel
theorem dX0_feedOf_3 : decode cX0_feedOf 3 = .ok (.bipush 20, 2) := by decide +kernel
theorem dX0_feedOf_5 : decode cX0_feedOf 5 = .ok (.irem, 1) := by decide +kernel
theorem dX0_feedOf_6 : decode cX0_feedOf 6 = .ok (.iconst 1, 1) := by decide +kernel
theorem dX0_feedOf_7 : decode cX0_feedOf 7 = .ok (.iadd, 1) := by decide +kernel
theorem dX0_feedOf_8 : decode cX0_feedOf 8 = .ok (.ireturn, 1) := by decide +kernel
set_option maxHeartbeats 4000000 in
set_option maxRecDepth 100000 in
theorem S_X0_feedOf (l : Launch) (D : va_G)  (p0 : Int32) (s0 : Int) (e0 : p0.toInt = s0) (sz : Nat) : Ki l yX0_feedOf wsX0_feedOf 1 40 0 0 D [.int p0] [] [] sz (fun (r : Int32) (_ : Unit) => True) (fun (_ : Unit) => []) (fun _ => []) := by
  unfold Ki
  refine g_ofW (cc := cX0_feedOf) (lv := [(0, .int p0)]) (by decide) rfl (Nat.le_of_ble_eq_true rfl) rfl ?_
  intro p e s m args below meth c A Q hA hQ F hr hnm
  have hts := F.2.2.2.2.1
  have rg0 : -2147483648 ≤ s0 ∧ s0 ≤ 2147483647 := e0 ▸ ti_rng p0
  refine g_iload_n F 0 dX0_feedOf_0 rfl rfl ?_
  refine g_iconst F 1 dX0_feedOf_1 (by decide) ?_
  refine u_isubc F dX0_feedOf_2 s0 1 e0 rfl (fun y1 ey1 => ?_)
  refine g_bipush F 20 dX0_feedOf_3 (by decide) ?_
  refine u0_irem F dX0_feedOf_5 (by decide) (fun y2 => ?_)
  refine g_iconst F 1 dX0_feedOf_6 (by decide) ?_
  refine u_iaddc F dX0_feedOf_7 y2.toInt 1 rfl rfl (fun y3 ey3 => ?_)
  exact u_iret F hA hQ hr () (trivial) rfl rfl dX0_feedOf_8

theorem dX0_growTimes_0 : decode cX0_growTimes 0 = .ok (.iconst 1, 1) := by decide +kernel
theorem dX0_growTimes_1 : decode cX0_growTimes 1 = .ok (.iload_n 1, 1) := by decide +kernel
theorem dX0_growTimes_2 : decode cX0_growTimes 2 = .ok (.invokestatic 108, 3) := by decide +kernel
theorem dX0_growTimes_5 : decode cX0_growTimes 5 = .ok (.istore 4, 2) := by decide +kernel
theorem dX0_growTimes_7 : decode cX0_growTimes 7 = .ok (.iload 4, 2) := by decide +kernel
theorem dX0_growTimes_9 : decode cX0_growTimes 9 = .ok (.iload_n 3, 1) := by decide +kernel
theorem dX0_growTimes_10 : decode cX0_growTimes 10 = .ok (.if_icmp .gt 141, 3) := by decide +kernel
theorem dX0_growTimes_13 : decode cX0_growTimes 13 = .ok (.iload 4, 2) := by decide +kernel
theorem dX0_growTimes_15 : decode cX0_growTimes 15 = .ok (.sipush 400, 3) := by decide +kernel
theorem dX0_growTimes_18 : decode cX0_growTimes 18 = .ok (.if_icmp .gt 133, 3) := by decide +kernel
theorem dX0_growTimes_21 : decode cX0_growTimes 21 = .ok (.iload 4, 2) := by decide +kernel
theorem dX0_growTimes_23 : decode cX0_growTimes 23 = .ok (.iload_n 1, 1) := by decide +kernel
theorem dX0_growTimes_24 : decode cX0_growTimes 24 = .ok (.isub, 1) := by decide +kernel
theorem dX0_growTimes_25 : decode cX0_growTimes 25 = .ok (.istore 5, 2) := by decide +kernel
theorem dX0_growTimes_27 : decode cX0_growTimes 27 = .ok (.iload 5, 2) := by decide +kernel
theorem dX0_growTimes_29 : decode cX0_growTimes 29 = .ok (.ifCond .lt 116, 3) := by decide +kernel
theorem dX0_growTimes_32 : decode cX0_growTimes 32 = .ok (.aload_n 0, 1) := by decide +kernel
theorem dX0_growTimes_33 : decode cX0_growTimes 33 = .ok (.getfield 15, 3) := by decide +kernel
theorem dX0_growTimes_36 : decode cX0_growTimes 36 = .ok (.iload 5, 2) := by decide +kernel
theorem dX0_growTimes_38 : decode cX0_growTimes 38 = .ok (.iaload, 1) := by decide +kernel
theorem dX0_growTimes_39 : decode cX0_growTimes 39 = .ok (.iconst (-1), 1) := by decide +kernel
theorem dX0_growTimes_40 : decode cX0_growTimes 40 = .ok (.if_icmp .ne 6, 3) := by decide +kernel
theorem dX0_growTimes_43 : decode cX0_growTimes 43 = .ok (.goto 102, 3) := by decide +kernel
theorem dX0_growTimes_46 : decode cX0_growTimes 46 = .ok (.aload_n 0, 1) := by decide +kernel
theorem dX0_growTimes_47 : decode cX0_growTimes 47 = .ok (.getfield 15, 3) := by decide +kernel
theorem dX0_growTimes_50 : decode cX0_growTimes 50 = .ok (.iload 5, 2) := by decide +kernel
theorem dX0_growTimes_52 : decode cX0_growTimes 52 = .ok (.iaload, 1) := by decide +kernel
theorem dX0_growTimes_53 : decode cX0_growTimes 53 = .ok (.iload_n 2, 1) := by decide +kernel
theorem dX0_growTimes_54 : decode cX0_growTimes 54 = .ok (.iadd, 1) := by decide +kernel
theorem dX0_growTimes_55 : decode cX0_growTimes 55 = .ok (.istore 6, 2) := by decide +kernel
theorem dX0_growTimes_57 : decode cX0_growTimes 57 = .ok (.aload_n 0, 1) := by decide +kernel
theorem dX0_growTimes_58 : decode cX0_growTimes 58 = .ok (.getfield 18, 3) := by decide +kernel
theorem dX0_growTimes_61 : decode cX0_growTimes 61 = .ok (.iload 5, 2) := by decide +kernel
theorem dX0_growTimes_63 : decode cX0_growTimes 63 = .ok (.iaload, 1) := by decide +kernel
theorem dX0_growTimes_64 : decode cX0_growTimes 64 = .ok (.iconst 1, 1) := by decide +kernel
theorem dX0_growTimes_65 : decode cX0_growTimes 65 = .ok (.iadd, 1) := by decide +kernel
theorem dX0_growTimes_66 : decode cX0_growTimes 66 = .ok (.istore 7, 2) := by decide +kernel
theorem dX0_growTimes_68 : decode cX0_growTimes 68 = .ok (.aload_n 0, 1) := by decide +kernel
theorem dX0_growTimes_69 : decode cX0_growTimes 69 = .ok (.getfield 15, 3) := by decide +kernel
theorem dX0_growTimes_72 : decode cX0_growTimes 72 = .ok (.iload 4, 2) := by decide +kernel
theorem dX0_growTimes_74 : decode cX0_growTimes 74 = .ok (.iaload, 1) := by decide +kernel
theorem dX0_growTimes_75 : decode cX0_growTimes 75 = .ok (.iconst (-1), 1) := by decide +kernel
theorem dX0_growTimes_76 : decode cX0_growTimes 76 = .ok (.if_icmp .eq 15, 3) := by decide +kernel
theorem dX0_growTimes_79 : decode cX0_growTimes 79 = .ok (.iload 6, 2) := by decide +kernel
theorem dX0_growTimes_81 : decode cX0_growTimes 81 = .ok (.aload_n 0, 1) := by decide +kernel
theorem dX0_growTimes_82 : decode cX0_growTimes 82 = .ok (.getfield 15, 3) := by decide +kernel
theorem dX0_growTimes_85 : decode cX0_growTimes 85 = .ok (.iload 4, 2) := by decide +kernel
theorem dX0_growTimes_87 : decode cX0_growTimes 87 = .ok (.iaload, 1) := by decide +kernel
theorem dX0_growTimes_88 : decode cX0_growTimes 88 = .ok (.if_icmp .ge 7, 3) := by decide +kernel
theorem dX0_growTimes_91 : decode cX0_growTimes 91 = .ok (.iconst 1, 1) := by decide +kernel
theorem dX0_growTimes_92 : decode cX0_growTimes 92 = .ok (.goto 4, 3) := by decide +kernel
theorem dX0_growTimes_95 : decode cX0_growTimes 95 = .ok (.iconst 0, 1) := by decide +kernel
theorem dX0_growTimes_96 : decode cX0_growTimes 96 = .ok (.istore 8, 2) := by decide +kernel
theorem dX0_growTimes_98 : decode cX0_growTimes 98 = .ok (.iload 8, 2) := by decide +kernel
theorem dX0_growTimes_100 : decode cX0_growTimes 100 = .ok (.ifCond .ne 27, 3) := by decide +kernel
theorem dX0_growTimes_103 : decode cX0_growTimes 103 = .ok (.iload 6, 2) := by decide +kernel
theorem dX0_growTimes_105 : decode cX0_growTimes 105 = .ok (.aload_n 0, 1) := by decide +kernel
theorem dX0_growTimes_106 : decode cX0_growTimes 106 = .ok (.getfield 15, 3) := by decide +kernel
theorem dX0_growTimes_109 : decode cX0_growTimes 109 = .ok (.iload 4, 2) := by decide +kernel
theorem dX0_growTimes_111 : decode cX0_growTimes 111 = .ok (.iaload, 1) := by decide +kernel
theorem dX0_growTimes_112 : decode cX0_growTimes 112 = .ok (.if_icmp .ne 33, 3) := by decide +kernel
theorem dX0_growTimes_115 : decode cX0_growTimes 115 = .ok (.iload 7, 2) := by decide +kernel
theorem dX0_growTimes_117 : decode cX0_growTimes 117 = .ok (.aload_n 0, 1) := by decide +kernel
theorem dX0_growTimes_118 : decode cX0_growTimes 118 = .ok (.getfield 18, 3) := by decide +kernel
theorem dX0_growTimes_121 : decode cX0_growTimes 121 = .ok (.iload 4, 2) := by decide +kernel
theorem dX0_growTimes_123 : decode cX0_growTimes 123 = .ok (.iaload, 1) := by decide +kernel
theorem dX0_growTimes_124 : decode cX0_growTimes 124 = .ok (.if_icmp .ge 21, 3) := by decide +kernel
theorem dX0_growTimes_127 : decode cX0_growTimes 127 = .ok (.aload_n 0, 1) := by decide +kernel
theorem dX0_growTimes_128 : decode cX0_growTimes 128 = .ok (.getfield 15, 3) := by decide +kernel
theorem dX0_growTimes_131 : decode cX0_growTimes 131 = .ok (.iload 4, 2) := by decide +kernel
theorem dX0_growTimes_133 : decode cX0_growTimes 133 = .ok (.iload 6, 2) := by decide +kernel
theorem dX0_growTimes_135 : decode cX0_growTimes 135 = .ok (.iastore, 1) := by decide +kernel
theorem dX0_growTimes_136 : decode cX0_growTimes 136 = .ok (.aload_n 0, 1) := by decide +kernel
theorem dX0_growTimes_137 : decode cX0_growTimes 137 = .ok (.getfield 18, 3) := by decide +kernel
theorem dX0_growTimes_140 : decode cX0_growTimes 140 = .ok (.iload 4, 2) := by decide +kernel
theorem dX0_growTimes_142 : decode cX0_growTimes 142 = .ok (.iload 7, 2) := by decide +kernel
theorem dX0_growTimes_144 : decode cX0_growTimes 144 = .ok (.iastore, 1) := by decide +kernel
theorem dX0_growTimes_145 : decode cX0_growTimes 145 = .ok (.iinc 4 1, 3) := by decide +kernel
theorem dX0_growTimes_148 : decode cX0_growTimes 148 = .ok (.goto (-141), 3) := by decide +kernel
theorem dX0_growTimes_151 : decode cX0_growTimes 151 = .ok (.return_, 1) := by decide +kernel
set_option maxHeartbeats 4000000 in
set_option maxRecDepth 100000 in
theorem S_X0_growTimes (l : Launch) (D : va_G) (K : Nat → ClassId) (a : Nat → Nat) (G : gS) (p0 : Int32) (s0 : Int) (p1 : Int32) (s1 : Int) (p2 : Int32) (s2 : Int) (e0 : p0.toInt = s0) (h0 : 1 ≤ s0 ∧ s0 ≤ 20) (e1 : p1.toInt = s1) (e2 : p2.toInt = s2) (h2 : 0 ≤ s2 ∧ s2 ≤ 400) (hI : xI G) (sz : Nat) : Kv l yX0_growTimes wsX0_growTimes 1 40 0 0 D [.ref (a 7), .int p0, .int p1, .int p2] (xW K a G) (tK K) sz (fun (G' : gS) => (xI G') ∧ (gu_un xcd [5000, 5100] G G') ∧ ((∀ (S : Nat → Int) (T : Int → Int), S (s0).toNat ≠ 0 → T (S (s0).toNat) = s1 → 0 ≤ s1 → s1 ≤ 3456 → clB (G 50) (G 51) (s2).toNat → clK S T (clT (G 50) (G 51)) ((s0).toNat - 1) (s2).toNat → clK S T (clT (G' 50) (G' 51)) (s0).toNat (s2).toNat ∧ clB (G' 50) (G' 51) (s2).toNat))) (fun (G' : gS) => (xW K a G')) (fun _ => (tK K)) := by
  unfold Kv
  refine g_ofW (cc := cX0_growTimes) (lv := [(0, .ref (a 7)), (1, .int p0), (2, .int p1), (3, .int p2)]) (by decide) rfl (Nat.le_of_ble_eq_true rfl) rfl ?_
  intro p e s m args below meth c A Q hA hQ F hr hnm
  have hts := F.2.2.2.2.1
  have w_0 : (Cond.fieldLink RX0 15 "QuietCut$Chooser" "leastTime" "[I").before args s = true := hts _ (List.mem_of_getElem? (i := 5) rfl)
  have i_X0 : ∀ w ∈ u_ws RX0 TX0 8, w ∈ wsX0_growTimes := fun _ h => List.mem_cons_of_mem _ (List.mem_append_right _ h)
  have w_1 : (Cond.fieldLink RX0 18 "QuietCut$Chooser" "fewest" "[I").before args s = true := hts _ (List.mem_of_getElem? (i := 6) rfl)
  have w_2 : (Cond.methodLink RX0 108 Lib.Math.max.name).before args s = true := hts _ (List.mem_of_getElem? (i := 1) rfl)
  have w_3 : (Cond.static Lib.Math.max.name).before args s = true := hts _ (List.mem_of_getElem? (i := 2) rfl)
  have w_4 : (Cond.initialized "java/lang/Math").before args s = true := hts _ (List.mem_of_getElem? (i := 3) rfl)
  have w_5 : (Cond.code Lib.Math.max.name Lib.Math.max.code 2 (some .int)).before args s = true := hts _ (List.mem_of_getElem? (i := 4) rfl)
  have rg1 : -2147483648 ≤ s1 ∧ s1 ≤ 2147483647 := e1 ▸ ti_rng p1
  have J_7 : ∀ (fuel : Nat) (x7_4 : Int32) (Gj7 : gS), (2147483647 - x7_4.toInt).toNat < fuel → (1 ≤ x7_4.toInt ∧ x7_4.toInt ≤ 401) → (xI Gj7) → (gu_un xcd [5000, 5100] G Gj7) → (∀ (S : Nat → Int) (T : Int → Int), S s0.toNat ≠ 0 → T (S s0.toNat) = s1 → 0 ≤ s1 → s1 ≤ 3456 → clB (G 50) (G 51) s2.toNat → clK S T (clT (G 50) (G 51)) (s0.toNat - 1) s2.toNat → clM S T (clT (G 50) (G 51)) (clT (Gj7 50) (Gj7 51)) s0.toNat (x7_4.toInt).toNat s2.toNat ∧ clB (Gj7 50) (Gj7 51) s2.toNat) → ((s0 ≤ x7_4.toInt)) → gG p l e (gR 1 0 0 40) s m args below meth c D A 9 Q 0 0 (xW K a Gj7) (tK K) [(0, .ref (a 7)), (1, .int p0), (2, .int p1), (3, .int p2), (4, .int x7_4)] 7 [] := by
    intro fuel
    induction fuel with
    | zero => intro x7_4 Gj7 hm; exact absurd hm (Nat.not_lt_zero _)
    | succ fuel_7 ih_7 =>
      intro x7_4 Gj7 hm_7 h7_4 jI7 jU7 gm lk
      refine g_iload F 4 dX0_growTimes_7 rfl ?_
      refine g_iload_n F 3 dX0_growTimes_9 rfl rfl ?_
      refine v_icmp_gt F 151 dX0_growTimes_10 (by decide) x7_4.toInt s2 rfl e2 (fun c1 => ?_) (fun c1 => ?_)
      · exact u_vret F hA hQ hr Gj7 (⟨jI7, (gu_un.tr gu_un.rf (gu_un.su jU7 rfl)), (fun S T hs hp p0 p1 hB hK => by obtain ⟨g1, g2⟩ := gm S T hs hp p0 p1 hB hK; exact ⟨g1.fin (by omega), g2⟩)⟩) rfl rfl dX0_growTimes_151
      · refine g_iload F 4 dX0_growTimes_13 rfl ?_
        refine g_sipush F 400 dX0_growTimes_15 (by decide) ?_
        refine v_icmp_gt F 151 dX0_growTimes_18 (by decide) x7_4.toInt 400 rfl rfl (fun c2 => absurd c2 (by omega)) (fun c2 => ?_)
        refine g_iload F 4 dX0_growTimes_21 rfl ?_
        refine g_iload_n F 1 dX0_growTimes_23 rfl rfl ?_
        refine u_isub F dX0_growTimes_24 x7_4.toInt s0 rfl e0 (by omega) (by omega) (fun y3 ey3 => ?_)
        refine g_istore F [(5, .int y3), (0, .ref (a 7)), (1, .int p0), (2, .int p1), (3, .int p2), (4, .int x7_4)] dX0_growTimes_25 (by decide) rfl ?_
        refine g_iload F 0 dX0_growTimes_27 rfl ?_
        refine v_if_lt F 145 dX0_growTimes_29 (by decide) y3.toInt rfl (fun c4 => ?_) (fun c4 => ?_)
        · refine u_iinc F (fun v_ => [(4, .int v_), (5, .int y3), (0, .ref (a 7)), (1, .int p0), (2, .int p1), (3, .int p2)]) dX0_growTimes_145 (j := 5) rfl x7_4.toInt 1 rfl rfl (by omega) (by omega) (by decide) (fun _ => rfl) (fun y5 ey5 => ?_)
          refine g_goto F 7 dX0_growTimes_148 (by decide) ?_
          refine g_locals [(0, .ref (a 7)), (1, .int p0), (2, .int p1), (3, .int p2), (4, .int y5)] [2, 3, 4, 5, 0] rfl ?_
          exact ih_7 y5 Gj7 (by omega) (by have h9 := ti_rng y5; omega) jI7 (gu_un.tr gu_un.rf (gu_un.su jU7 rfl)) (fun S T hs hp p0 p1 hB hK => by obtain ⟨g1, g2⟩ := gm S T hs hp p0 p1 hB hK; rw [show (y5.toInt).toNat = (x7_4.toInt).toNat + 1 by omega]; have ix : (x7_4.toInt).toNat - s0.toNat = (x7_4.toInt - s0).toNat := (by omega); have bx := g2 ((x7_4.toInt).toNat - s0.toNat) (by omega); rw [ix] at bx; exact ⟨cl_no g1 g2 (by omega) (by omega) (by omega) (by omega) hs hp p0 (by rw [ix]; omega), g2⟩) (by (first | omega | (simp only [Int32.reduceToInt, true_and, and_true, ne_eq, not_true_eq_false, false_and, or_false, false_or, true_or, or_true, false_implies] <;> omega)))
        · refine g_aload_n F 1 dX0_growTimes_32 rfl rfl ?_
          refine xg_7_4 F i_X0 w_0 dX0_growTimes_33 ?_
          refine g_iload F 0 dX0_growTimes_36 rfl ?_
          refine u1_iald F 50 0 xc_50 rfl y3.toInt rfl (by omega) (by omega) dX0_growTimes_38 ((Gj7 50) ((x7_4.toInt - s0)).toNat) (by rw [show y3.toInt = (x7_4.toInt - s0) by omega] <;> rfl) ?_
          refine g_iconst F (-1) dX0_growTimes_39 (by decide) ?_
          refine v_icmp_ne F 46 dX0_growTimes_40 (by decide) ((Gj7 50) ((x7_4.toInt - s0)).toNat).toInt (-1) rfl rfl (fun c6 => ?_) (fun c6 => ?_)
          · refine g_aload_n F 1 dX0_growTimes_46 rfl rfl ?_
            refine xg_7_4 F i_X0 w_0 dX0_growTimes_47 ?_
            refine g_iload F 0 dX0_growTimes_50 rfl ?_
            refine u1_iald F 50 0 xc_50 rfl y3.toInt rfl (by omega) (by omega) dX0_growTimes_52 ((Gj7 50) ((x7_4.toInt - s0)).toNat) (by rw [show y3.toInt = (x7_4.toInt - s0) by omega] <;> rfl) ?_
            refine g_iload_n F 3 dX0_growTimes_53 rfl rfl ?_
            refine u_iaddc F dX0_growTimes_54 ((Gj7 50) ((x7_4.toInt - s0)).toNat).toInt s1 rfl e1 (fun y7 ey7 => ?_)
            refine g_istore F [(6, .int y7), (5, .int y3), (0, .ref (a 7)), (1, .int p0), (2, .int p1), (3, .int p2), (4, .int x7_4)] dX0_growTimes_55 (by decide) rfl ?_
            refine g_aload_n F 2 dX0_growTimes_57 rfl rfl ?_
            refine xg_7_5 F i_X0 w_1 dX0_growTimes_58 ?_
            refine g_iload F 1 dX0_growTimes_61 rfl ?_
            refine u1_iald F 51 0 xc_51 rfl y3.toInt rfl (by omega) (by omega) dX0_growTimes_63 ((Gj7 51) ((x7_4.toInt - s0)).toNat) (by rw [show y3.toInt = (x7_4.toInt - s0) by omega] <;> rfl) ?_
            refine g_iconst F 1 dX0_growTimes_64 (by decide) ?_
            refine u_iaddc F dX0_growTimes_65 ((Gj7 51) ((x7_4.toInt - s0)).toNat).toInt 1 rfl rfl (fun y8 ey8 => ?_)
            refine g_istore F [(7, .int y8), (6, .int y7), (5, .int y3), (0, .ref (a 7)), (1, .int p0), (2, .int p1), (3, .int p2), (4, .int x7_4)] dX0_growTimes_66 (by decide) rfl ?_
            refine g_aload_n F 3 dX0_growTimes_68 rfl rfl ?_
            refine xg_7_4 F i_X0 w_0 dX0_growTimes_69 ?_
            refine g_iload F 7 dX0_growTimes_72 rfl ?_
            refine u1_iald F 50 0 xc_50 rfl x7_4.toInt rfl (by omega) (by omega) dX0_growTimes_74 ((Gj7 50) (x7_4.toInt).toNat) (rfl) ?_
            refine g_iconst F (-1) dX0_growTimes_75 (by decide) ?_
            refine v_icmp_eq F 91 dX0_growTimes_76 (by decide) ((Gj7 50) (x7_4.toInt).toNat).toInt (-1) rfl rfl (fun c9 => ?_) (fun c9 => ?_)
            · refine g_iconst F 1 dX0_growTimes_91 (by decide) ?_
              refine g_goto F 96 dX0_growTimes_92 (by decide) ?_
              refine g_istore F [(8, .int 1), (7, .int y8), (6, .int y7), (5, .int y3), (0, .ref (a 7)), (1, .int p0), (2, .int p1), (3, .int p2), (4, .int x7_4)] dX0_growTimes_96 (by decide) rfl ?_
              refine g_iload F 0 dX0_growTimes_98 rfl ?_
              refine v_if_ne F 127 dX0_growTimes_100 (by decide) 1 rfl (fun c10 => ?_) (fun c10 => absurd c10 (by decide))
              refine g_aload_n F 4 dX0_growTimes_127 rfl rfl ?_
              refine xg_7_4 F i_X0 w_0 dX0_growTimes_128 ?_
              refine g_iload F 8 dX0_growTimes_131 rfl ?_
              refine g_iload F 2 dX0_growTimes_133 rfl ?_
              refine u_iast F 50 0 xc_50 rfl x7_4.toInt rfl (by omega) (by omega) (xW K a (gu_up Gj7 50 (x7_4.toInt).toNat y7)) (xs_50 _) dX0_growTimes_135 ?_
              refine g_aload_n F 4 dX0_growTimes_136 rfl rfl ?_
              refine xg_7_5 F i_X0 w_1 dX0_growTimes_137 ?_
              refine g_iload F 8 dX0_growTimes_140 rfl ?_
              refine g_iload F 1 dX0_growTimes_142 rfl ?_
              refine u_iast F 51 0 xc_51 rfl x7_4.toInt rfl (by omega) (by omega) (xW K a (gu_up (gu_up Gj7 50 (x7_4.toInt).toNat y7) 51 (x7_4.toInt).toNat y8)) (xs_51 _) dX0_growTimes_144 ?_
              refine u_iinc F (fun v_ => [(4, .int v_), (8, .int 1), (7, .int y8), (6, .int y7), (5, .int y3), (0, .ref (a 7)), (1, .int p0), (2, .int p1), (3, .int p2)]) dX0_growTimes_145 (j := 8) rfl x7_4.toInt 1 rfl rfl (by omega) (by omega) (by decide) (fun _ => rfl) (fun y11 ey11 => ?_)
              refine g_goto F 7 dX0_growTimes_148 (by decide) ?_
              refine g_locals [(0, .ref (a 7)), (1, .int p0), (2, .int p1), (3, .int p2), (4, .int y11)] [5, 6, 7, 8, 0] rfl ?_
              exact ih_7 y11 (gu_up (gu_up Gj7 50 (x7_4.toInt).toNat y7) 51 (x7_4.toInt).toNat y8) (by omega) (by have h9 := ti_rng y11; omega) (gu_I.up (j := 51) (k := (x7_4.toInt).toNat) (v := y8) (gu_I.up (j := 50) (k := (x7_4.toInt).toNat) (v := y7) jI7 (ti_rng _).1 (ti_rng _).2) (ti_rng _).1 (ti_rng _).2) (gu_un.up (j := 51) (k := (x7_4.toInt).toNat) (v := y8) (gu_un.up (j := 50) (k := (x7_4.toInt).toNat) (v := y7) (gu_un.tr gu_un.rf (gu_un.su jU7 rfl)) (show (5000 : Nat) ∈ ([5000, 5100] : List Nat) by decide)) (show (5100 : Nat) ∈ ([5000, 5100] : List Nat) by decide)) (fun S T hs hp p0 p1 hB hK => by obtain ⟨g1, g2⟩ := gm S T hs hp p0 p1 hB hK; rw [show (y11.toInt).toNat = (x7_4.toInt).toNat + 1 by omega]; have ix : (x7_4.toInt).toNat - s0.toNat = (x7_4.toInt - s0).toNat := (by omega); have bx := g2 ((x7_4.toInt).toNat - s0.toNat) (by omega); rw [ix] at bx; exact cl_yes g1 g2 (by omega) (by omega) (by omega) (by omega) hs hp p0 p1 (by rw [ix]; omega) (by rw [ix]; omega) (va := y7) (vb := y8) (by rw [ix]; omega) (by rw [ix]; omega) rfl rfl) (by (first | omega | (simp only [Int32.reduceToInt, true_and, and_true, ne_eq, not_true_eq_false, false_and, or_false, false_or, true_or, or_true, false_implies] <;> omega)))
            · refine g_iload F 1 dX0_growTimes_79 rfl ?_
              refine g_aload_n F 3 dX0_growTimes_81 rfl rfl ?_
              refine xg_7_4 F i_X0 w_0 dX0_growTimes_82 ?_
              refine g_iload F 7 dX0_growTimes_85 rfl ?_
              refine u1_iald F 50 0 xc_50 rfl x7_4.toInt rfl (by omega) (by omega) dX0_growTimes_87 ((Gj7 50) (x7_4.toInt).toNat) (rfl) ?_
              have b12 := ti_rng y7
              have b13 := ti_rng ((Gj7 50) (x7_4.toInt).toNat)
              refine v_icmp_ge F 95 dX0_growTimes_88 (by decide) y7.toInt ((Gj7 50) (x7_4.toInt).toNat).toInt rfl rfl (fun c14 => ?_) (fun c14 => ?_)
              · refine g_iconst F 0 dX0_growTimes_95 (by decide) ?_
                refine g_istore F [(8, .int 0), (7, .int y8), (6, .int y7), (5, .int y3), (0, .ref (a 7)), (1, .int p0), (2, .int p1), (3, .int p2), (4, .int x7_4)] dX0_growTimes_96 (by decide) rfl ?_
                refine g_iload F 0 dX0_growTimes_98 rfl ?_
                refine v_if_ne F 127 dX0_growTimes_100 (by decide) 0 rfl (fun c15 => absurd c15 (by decide)) (fun c15 => ?_)
                refine g_iload F 2 dX0_growTimes_103 rfl ?_
                refine g_aload_n F 4 dX0_growTimes_105 rfl rfl ?_
                refine xg_7_4 F i_X0 w_0 dX0_growTimes_106 ?_
                refine g_iload F 8 dX0_growTimes_109 rfl ?_
                refine u1_iald F 50 0 xc_50 rfl x7_4.toInt rfl (by omega) (by omega) dX0_growTimes_111 ((Gj7 50) (x7_4.toInt).toNat) (rfl) ?_
                refine v_icmp_ne F 145 dX0_growTimes_112 (by decide) y7.toInt ((Gj7 50) (x7_4.toInt).toNat).toInt rfl rfl (fun c16 => ?_) (fun c16 => ?_)
                · refine u_iinc F (fun v_ => [(4, .int v_), (8, .int 0), (7, .int y8), (6, .int y7), (5, .int y3), (0, .ref (a 7)), (1, .int p0), (2, .int p1), (3, .int p2)]) dX0_growTimes_145 (j := 8) rfl x7_4.toInt 1 rfl rfl (by omega) (by omega) (by decide) (fun _ => rfl) (fun y17 ey17 => ?_)
                  refine g_goto F 7 dX0_growTimes_148 (by decide) ?_
                  refine g_locals [(0, .ref (a 7)), (1, .int p0), (2, .int p1), (3, .int p2), (4, .int y17)] [5, 6, 7, 8, 0] rfl ?_
                  exact ih_7 y17 Gj7 (by omega) (by have h9 := ti_rng y17; omega) jI7 (gu_un.tr gu_un.rf (gu_un.su jU7 rfl)) (fun S T hs hp p0 p1 hB hK => by obtain ⟨g1, g2⟩ := gm S T hs hp p0 p1 hB hK; rw [show (y17.toInt).toNat = (x7_4.toInt).toNat + 1 by omega]; have ix : (x7_4.toInt).toNat - s0.toNat = (x7_4.toInt - s0).toNat := (by omega); have bx := g2 ((x7_4.toInt).toNat - s0.toNat) (by omega); rw [ix] at bx; exact ⟨cl_no g1 g2 (by omega) (by omega) (by omega) (by omega) hs hp p0 (by rw [ix]; omega), g2⟩) (by (first | omega | (simp only [Int32.reduceToInt, true_and, and_true, ne_eq, not_true_eq_false, false_and, or_false, false_or, true_or, or_true, false_implies] <;> omega)))
                · refine g_iload F 1 dX0_growTimes_115 rfl ?_
                  refine g_aload_n F 4 dX0_growTimes_117 rfl rfl ?_
                  refine xg_7_5 F i_X0 w_1 dX0_growTimes_118 ?_
                  refine g_iload F 8 dX0_growTimes_121 rfl ?_
                  refine u1_iald F 51 0 xc_51 rfl x7_4.toInt rfl (by omega) (by omega) dX0_growTimes_123 ((Gj7 51) (x7_4.toInt).toNat) (rfl) ?_
                  have b18 := ti_rng y8
                  have b19 := ti_rng ((Gj7 51) (x7_4.toInt).toNat)
                  refine v_icmp_ge F 145 dX0_growTimes_124 (by decide) y8.toInt ((Gj7 51) (x7_4.toInt).toNat).toInt rfl rfl (fun c20 => ?_) (fun c20 => ?_)
                  · refine u_iinc F (fun v_ => [(4, .int v_), (8, .int 0), (7, .int y8), (6, .int y7), (5, .int y3), (0, .ref (a 7)), (1, .int p0), (2, .int p1), (3, .int p2)]) dX0_growTimes_145 (j := 8) rfl x7_4.toInt 1 rfl rfl (by omega) (by omega) (by decide) (fun _ => rfl) (fun y21 ey21 => ?_)
                    refine g_goto F 7 dX0_growTimes_148 (by decide) ?_
                    refine g_locals [(0, .ref (a 7)), (1, .int p0), (2, .int p1), (3, .int p2), (4, .int y21)] [5, 6, 7, 8, 0] rfl ?_
                    exact ih_7 y21 Gj7 (by omega) (by have h9 := ti_rng y21; omega) jI7 (gu_un.tr gu_un.rf (gu_un.su jU7 rfl)) (fun S T hs hp p0 p1 hB hK => by obtain ⟨g1, g2⟩ := gm S T hs hp p0 p1 hB hK; rw [show (y21.toInt).toNat = (x7_4.toInt).toNat + 1 by omega]; have ix : (x7_4.toInt).toNat - s0.toNat = (x7_4.toInt - s0).toNat := (by omega); have bx := g2 ((x7_4.toInt).toNat - s0.toNat) (by omega); rw [ix] at bx; exact ⟨cl_no g1 g2 (by omega) (by omega) (by omega) (by omega) hs hp p0 (by rw [ix]; omega), g2⟩) (by (first | omega | (simp only [Int32.reduceToInt, true_and, and_true, ne_eq, not_true_eq_false, false_and, or_false, false_or, true_or, or_true, false_implies] <;> omega)))
                  · refine g_aload_n F 4 dX0_growTimes_127 rfl rfl ?_
                    refine xg_7_4 F i_X0 w_0 dX0_growTimes_128 ?_
                    refine g_iload F 8 dX0_growTimes_131 rfl ?_
                    refine g_iload F 2 dX0_growTimes_133 rfl ?_
                    refine u_iast F 50 0 xc_50 rfl x7_4.toInt rfl (by omega) (by omega) (xW K a (gu_up Gj7 50 (x7_4.toInt).toNat y7)) (xs_50 _) dX0_growTimes_135 ?_
                    refine g_aload_n F 4 dX0_growTimes_136 rfl rfl ?_
                    refine xg_7_5 F i_X0 w_1 dX0_growTimes_137 ?_
                    refine g_iload F 8 dX0_growTimes_140 rfl ?_
                    refine g_iload F 1 dX0_growTimes_142 rfl ?_
                    refine u_iast F 51 0 xc_51 rfl x7_4.toInt rfl (by omega) (by omega) (xW K a (gu_up (gu_up Gj7 50 (x7_4.toInt).toNat y7) 51 (x7_4.toInt).toNat y8)) (xs_51 _) dX0_growTimes_144 ?_
                    refine u_iinc F (fun v_ => [(4, .int v_), (8, .int 0), (7, .int y8), (6, .int y7), (5, .int y3), (0, .ref (a 7)), (1, .int p0), (2, .int p1), (3, .int p2)]) dX0_growTimes_145 (j := 8) rfl x7_4.toInt 1 rfl rfl (by omega) (by omega) (by decide) (fun _ => rfl) (fun y22 ey22 => ?_)
                    refine g_goto F 7 dX0_growTimes_148 (by decide) ?_
                    refine g_locals [(0, .ref (a 7)), (1, .int p0), (2, .int p1), (3, .int p2), (4, .int y22)] [5, 6, 7, 8, 0] rfl ?_
                    exact ih_7 y22 (gu_up (gu_up Gj7 50 (x7_4.toInt).toNat y7) 51 (x7_4.toInt).toNat y8) (by omega) (by have h9 := ti_rng y22; omega) (gu_I.up (j := 51) (k := (x7_4.toInt).toNat) (v := y8) (gu_I.up (j := 50) (k := (x7_4.toInt).toNat) (v := y7) jI7 (ti_rng _).1 (ti_rng _).2) (ti_rng _).1 (ti_rng _).2) (gu_un.up (j := 51) (k := (x7_4.toInt).toNat) (v := y8) (gu_un.up (j := 50) (k := (x7_4.toInt).toNat) (v := y7) (gu_un.tr gu_un.rf (gu_un.su jU7 rfl)) (show (5000 : Nat) ∈ ([5000, 5100] : List Nat) by decide)) (show (5100 : Nat) ∈ ([5000, 5100] : List Nat) by decide)) (fun S T hs hp p0 p1 hB hK => by obtain ⟨g1, g2⟩ := gm S T hs hp p0 p1 hB hK; rw [show (y22.toInt).toNat = (x7_4.toInt).toNat + 1 by omega]; have ix : (x7_4.toInt).toNat - s0.toNat = (x7_4.toInt - s0).toNat := (by omega); have bx := g2 ((x7_4.toInt).toNat - s0.toNat) (by omega); rw [ix] at bx; exact cl_yes g1 g2 (by omega) (by omega) (by omega) (by omega) hs hp p0 p1 (by rw [ix]; omega) (by rw [ix]; omega) (va := y7) (vb := y8) (by rw [ix]; omega) (by rw [ix]; omega) rfl rfl) (by (first | omega | (simp only [Int32.reduceToInt, true_and, and_true, ne_eq, not_true_eq_false, false_and, or_false, false_or, true_or, or_true, false_implies] <;> omega)))
              · refine g_iconst F 1 dX0_growTimes_91 (by decide) ?_
                refine g_goto F 96 dX0_growTimes_92 (by decide) ?_
                refine g_istore F [(8, .int 1), (7, .int y8), (6, .int y7), (5, .int y3), (0, .ref (a 7)), (1, .int p0), (2, .int p1), (3, .int p2), (4, .int x7_4)] dX0_growTimes_96 (by decide) rfl ?_
                refine g_iload F 0 dX0_growTimes_98 rfl ?_
                refine v_if_ne F 127 dX0_growTimes_100 (by decide) 1 rfl (fun c23 => ?_) (fun c23 => absurd c23 (by decide))
                refine g_aload_n F 4 dX0_growTimes_127 rfl rfl ?_
                refine xg_7_4 F i_X0 w_0 dX0_growTimes_128 ?_
                refine g_iload F 8 dX0_growTimes_131 rfl ?_
                refine g_iload F 2 dX0_growTimes_133 rfl ?_
                refine u_iast F 50 0 xc_50 rfl x7_4.toInt rfl (by omega) (by omega) (xW K a (gu_up Gj7 50 (x7_4.toInt).toNat y7)) (xs_50 _) dX0_growTimes_135 ?_
                refine g_aload_n F 4 dX0_growTimes_136 rfl rfl ?_
                refine xg_7_5 F i_X0 w_1 dX0_growTimes_137 ?_
                refine g_iload F 8 dX0_growTimes_140 rfl ?_
                refine g_iload F 1 dX0_growTimes_142 rfl ?_
                refine u_iast F 51 0 xc_51 rfl x7_4.toInt rfl (by omega) (by omega) (xW K a (gu_up (gu_up Gj7 50 (x7_4.toInt).toNat y7) 51 (x7_4.toInt).toNat y8)) (xs_51 _) dX0_growTimes_144 ?_
                refine u_iinc F (fun v_ => [(4, .int v_), (8, .int 1), (7, .int y8), (6, .int y7), (5, .int y3), (0, .ref (a 7)), (1, .int p0), (2, .int p1), (3, .int p2)]) dX0_growTimes_145 (j := 8) rfl x7_4.toInt 1 rfl rfl (by omega) (by omega) (by decide) (fun _ => rfl) (fun y24 ey24 => ?_)
                refine g_goto F 7 dX0_growTimes_148 (by decide) ?_
                refine g_locals [(0, .ref (a 7)), (1, .int p0), (2, .int p1), (3, .int p2), (4, .int y24)] [5, 6, 7, 8, 0] rfl ?_
                exact ih_7 y24 (gu_up (gu_up Gj7 50 (x7_4.toInt).toNat y7) 51 (x7_4.toInt).toNat y8) (by omega) (by have h9 := ti_rng y24; omega) (gu_I.up (j := 51) (k := (x7_4.toInt).toNat) (v := y8) (gu_I.up (j := 50) (k := (x7_4.toInt).toNat) (v := y7) jI7 (ti_rng _).1 (ti_rng _).2) (ti_rng _).1 (ti_rng _).2) (gu_un.up (j := 51) (k := (x7_4.toInt).toNat) (v := y8) (gu_un.up (j := 50) (k := (x7_4.toInt).toNat) (v := y7) (gu_un.tr gu_un.rf (gu_un.su jU7 rfl)) (show (5000 : Nat) ∈ ([5000, 5100] : List Nat) by decide)) (show (5100 : Nat) ∈ ([5000, 5100] : List Nat) by decide)) (fun S T hs hp p0 p1 hB hK => by obtain ⟨g1, g2⟩ := gm S T hs hp p0 p1 hB hK; rw [show (y24.toInt).toNat = (x7_4.toInt).toNat + 1 by omega]; have ix : (x7_4.toInt).toNat - s0.toNat = (x7_4.toInt - s0).toNat := (by omega); have bx := g2 ((x7_4.toInt).toNat - s0.toNat) (by omega); rw [ix] at bx; exact cl_yes g1 g2 (by omega) (by omega) (by omega) (by omega) hs hp p0 p1 (by rw [ix]; omega) (by rw [ix]; omega) (va := y7) (vb := y8) (by rw [ix]; omega) (by rw [ix]; omega) rfl rfl) (by (first | omega | (simp only [Int32.reduceToInt, true_and, and_true, ne_eq, not_true_eq_false, false_and, or_false, false_or, true_or, or_true, false_implies] <;> omega)))
          · refine g_goto F 145 dX0_growTimes_43 (by decide) ?_
            refine u_iinc F (fun v_ => [(4, .int v_), (5, .int y3), (0, .ref (a 7)), (1, .int p0), (2, .int p1), (3, .int p2)]) dX0_growTimes_145 (j := 5) rfl x7_4.toInt 1 rfl rfl (by omega) (by omega) (by decide) (fun _ => rfl) (fun y25 ey25 => ?_)
            refine g_goto F 7 dX0_growTimes_148 (by decide) ?_
            refine g_locals [(0, .ref (a 7)), (1, .int p0), (2, .int p1), (3, .int p2), (4, .int y25)] [2, 3, 4, 5, 0] rfl ?_
            exact ih_7 y25 Gj7 (by omega) (by have h9 := ti_rng y25; omega) jI7 (gu_un.tr gu_un.rf (gu_un.su jU7 rfl)) (fun S T hs hp p0 p1 hB hK => by obtain ⟨g1, g2⟩ := gm S T hs hp p0 p1 hB hK; rw [show (y25.toInt).toNat = (x7_4.toInt).toNat + 1 by omega]; have ix : (x7_4.toInt).toNat - s0.toNat = (x7_4.toInt - s0).toNat := (by omega); have bx := g2 ((x7_4.toInt).toNat - s0.toNat) (by omega); rw [ix] at bx; exact ⟨cl_no g1 g2 (by omega) (by omega) (by omega) (by omega) hs hp p0 (by rw [ix]; omega), g2⟩) (by (first | omega | (simp only [Int32.reduceToInt, true_and, and_true, ne_eq, not_true_eq_false, false_and, or_false, false_or, true_or, or_true, false_implies] <;> omega)))
  refine g_iconst F 1 dX0_growTimes_0 (by decide) ?_
  refine g_iload_n F 1 dX0_growTimes_1 rfl rfl ?_
  refine u_mmax F w_2 w_3 w_4 w_5 (Nat.le_of_ble_eq_true rfl) (Nat.le_of_ble_eq_true rfl) (Nat.le_of_ble_eq_true rfl) (Nat.le_of_ble_eq_true rfl) dX0_growTimes_2 1 s0 rfl e0 (fun y26 ey26 => ?_)
  refine g_istore F [(4, .int y26), (0, .ref (a 7)), (1, .int p0), (2, .int p1), (3, .int p2)] dX0_growTimes_5 (by decide) rfl ?_
  refine g_locals [(0, .ref (a 7)), (1, .int p0), (2, .int p1), (3, .int p2), (4, .int y26)] [1, 2, 3, 4, 0] rfl ?_
  exact J_7 _ y26 G (Nat.lt_succ_self _) (by have h9 := ti_rng y26; omega) hI gu_un.rf (fun S T hs hp p0 p1 hB hK => ⟨by rw [show (y26.toInt).toNat = s0.toNat by omega]; exact clM.at0 hK (by omega), hB⟩) (by (first | omega | (simp only [Int32.reduceToInt, true_and, and_true, ne_eq, not_true_eq_false, false_and, or_false, false_or, true_or, or_true, false_implies] <;> omega)))

theorem dX0_findLeastTimes_0 : decode cX0_findLeastTimes 0 = .ok (.aload_n 0, 1) := by decide +kernel
theorem dX0_findLeastTimes_1 : decode cX0_findLeastTimes 1 = .ok (.getfield 15, 3) := by decide +kernel
theorem dX0_findLeastTimes_4 : decode cX0_findLeastTimes 4 = .ok (.iconst 0, 1) := by decide +kernel
theorem dX0_findLeastTimes_5 : decode cX0_findLeastTimes 5 = .ok (.iconst 0, 1) := by decide +kernel
theorem dX0_findLeastTimes_6 : decode cX0_findLeastTimes 6 = .ok (.iastore, 1) := by decide +kernel
theorem dX0_findLeastTimes_7 : decode cX0_findLeastTimes 7 = .ok (.aload_n 0, 1) := by decide +kernel
theorem dX0_findLeastTimes_8 : decode cX0_findLeastTimes 8 = .ok (.getfield 18, 3) := by decide +kernel
theorem dX0_findLeastTimes_11 : decode cX0_findLeastTimes 11 = .ok (.iconst 0, 1) := by decide +kernel
theorem dX0_findLeastTimes_12 : decode cX0_findLeastTimes 12 = .ok (.iconst 0, 1) := by decide +kernel
theorem dX0_findLeastTimes_13 : decode cX0_findLeastTimes 13 = .ok (.iastore, 1) := by decide +kernel
theorem dX0_findLeastTimes_14 : decode cX0_findLeastTimes 14 = .ok (.iconst 1, 1) := by decide +kernel
theorem dX0_findLeastTimes_15 : decode cX0_findLeastTimes 15 = .ok (.istore_n 2, 1) := by decide +kernel
theorem dX0_findLeastTimes_16 : decode cX0_findLeastTimes 16 = .ok (.iload_n 2, 1) := by decide +kernel
theorem dX0_findLeastTimes_17 : decode cX0_findLeastTimes 17 = .ok (.iload_n 1, 1) := by decide +kernel
theorem dX0_findLeastTimes_18 : decode cX0_findLeastTimes 18 = .ok (.if_icmp .gt 30, 3) := by decide +kernel
theorem dX0_findLeastTimes_21 : decode cX0_findLeastTimes 21 = .ok (.iload_n 2, 1) := by decide +kernel
theorem dX0_findLeastTimes_22 : decode cX0_findLeastTimes 22 = .ok (.sipush 400, 3) := by decide +kernel
theorem dX0_findLeastTimes_25 : decode cX0_findLeastTimes 25 = .ok (.if_icmp .gt 23, 3) := by decide +kernel
theorem dX0_findLeastTimes_28 : decode cX0_findLeastTimes 28 = .ok (.aload_n 0, 1) := by decide +kernel
theorem dX0_findLeastTimes_29 : decode cX0_findLeastTimes 29 = .ok (.getfield 15, 3) := by decide +kernel
theorem dX0_findLeastTimes_32 : decode cX0_findLeastTimes 32 = .ok (.iload_n 2, 1) := by decide +kernel
theorem dX0_findLeastTimes_33 : decode cX0_findLeastTimes 33 = .ok (.iconst (-1), 1) := by decide +kernel
theorem dX0_findLeastTimes_34 : decode cX0_findLeastTimes 34 = .ok (.iastore, 1) := by decide +kernel
theorem dX0_findLeastTimes_35 : decode cX0_findLeastTimes 35 = .ok (.aload_n 0, 1) := by decide +kernel
theorem dX0_findLeastTimes_36 : decode cX0_findLeastTimes 36 = .ok (.getfield 18, 3) := by decide +kernel
theorem dX0_findLeastTimes_39 : decode cX0_findLeastTimes 39 = .ok (.iload_n 2, 1) := by decide +kernel
theorem dX0_findLeastTimes_40 : decode cX0_findLeastTimes 40 = .ok (.iconst 0, 1) := by decide +kernel
theorem dX0_findLeastTimes_41 : decode cX0_findLeastTimes 41 = .ok (.iastore, 1) := by decide +kernel
theorem dX0_findLeastTimes_42 : decode cX0_findLeastTimes 42 = .ok (.iinc 2 1, 3) := by decide +kernel
theorem dX0_findLeastTimes_45 : decode cX0_findLeastTimes 45 = .ok (.goto (-29), 3) := by decide +kernel
theorem dX0_findLeastTimes_48 : decode cX0_findLeastTimes 48 = .ok (.iconst 1, 1) := by decide +kernel
theorem dX0_findLeastTimes_49 : decode cX0_findLeastTimes 49 = .ok (.istore_n 2, 1) := by decide +kernel
theorem dX0_findLeastTimes_50 : decode cX0_findLeastTimes 50 = .ok (.iload_n 2, 1) := by decide +kernel
theorem dX0_findLeastTimes_51 : decode cX0_findLeastTimes 51 = .ok (.bipush 20, 2) := by decide +kernel
theorem dX0_findLeastTimes_53 : decode cX0_findLeastTimes 53 = .ok (.if_icmp .gt 37, 3) := by decide +kernel
theorem dX0_findLeastTimes_56 : decode cX0_findLeastTimes 56 = .ok (.aload_n 0, 1) := by decide +kernel
theorem dX0_findLeastTimes_57 : decode cX0_findLeastTimes 57 = .ok (.getfield 9, 3) := by decide +kernel
theorem dX0_findLeastTimes_60 : decode cX0_findLeastTimes 60 = .ok (.iload_n 2, 1) := by decide +kernel
theorem dX0_findLeastTimes_61 : decode cX0_findLeastTimes 61 = .ok (.iaload, 1) := by decide +kernel
theorem dX0_findLeastTimes_62 : decode cX0_findLeastTimes 62 = .ok (.ifCond .eq 22, 3) := by decide +kernel
theorem dX0_findLeastTimes_65 : decode cX0_findLeastTimes 65 = .ok (.aload_n 0, 1) := by decide +kernel
theorem dX0_findLeastTimes_66 : decode cX0_findLeastTimes 66 = .ok (.iload_n 2, 1) := by decide +kernel
theorem dX0_findLeastTimes_67 : decode cX0_findLeastTimes 67 = .ok (.aload_n 0, 1) := by decide +kernel
theorem dX0_findLeastTimes_68 : decode cX0_findLeastTimes 68 = .ok (.getfield 24, 3) := by decide +kernel
theorem dX0_findLeastTimes_71 : decode cX0_findLeastTimes 71 = .ok (.aload_n 0, 1) := by decide +kernel
theorem dX0_findLeastTimes_72 : decode cX0_findLeastTimes 72 = .ok (.getfield 9, 3) := by decide +kernel
theorem dX0_findLeastTimes_75 : decode cX0_findLeastTimes 75 = .ok (.iload_n 2, 1) := by decide +kernel
theorem dX0_findLeastTimes_76 : decode cX0_findLeastTimes 76 = .ok (.iaload, 1) := by decide +kernel
theorem dX0_findLeastTimes_77 : decode cX0_findLeastTimes 77 = .ok (.invokevirtual 64, 3) := by decide +kernel
theorem dX0_findLeastTimes_80 : decode cX0_findLeastTimes 80 = .ok (.iload_n 1, 1) := by decide +kernel
theorem dX0_findLeastTimes_81 : decode cX0_findLeastTimes 81 = .ok (.invokevirtual 104, 3) := by decide +kernel
theorem dX0_findLeastTimes_84 : decode cX0_findLeastTimes 84 = .ok (.iinc 2 1, 3) := by decide +kernel
theorem dX0_findLeastTimes_87 : decode cX0_findLeastTimes 87 = .ok (.goto (-37), 3) := by decide +kernel
theorem dX0_findLeastTimes_90 : decode cX0_findLeastTimes 90 = .ok (.return_, 1) := by decide +kernel
set_option maxRecDepth 20000 in
theorem ggX0_findLeastTimes_X0_growTimes : GoodIn wsX0_findLeastTimes wsX0_growTimes := goodIn_r _ [23, 24, 25, 26, 27, 1, 2, 28, 29, 30, 31, 32, 33, 34, 35] rfl (by decide +kernel)
set_option maxRecDepth 20000 in
theorem gX0_findLeastTimes_X0_growTimes : GoodIn wsX0_findLeastTimes (wsV RX0 104 RX0 yX0_growTimes wsX0_growTimes) := goodIn_app (goodIn_of _ (by decide +kernel)) ggX0_findLeastTimes_X0_growTimes
set_option maxRecDepth 20000 in
theorem ggX0_findLeastTimes_X7_passTime : GoodIn wsX0_findLeastTimes wsX7_passTime := goodIn_r _ [9, 10, 11, 12, 13, 8, 14, 15, 16, 17, 18, 36, 37, 38, 39] rfl (by decide +kernel)
set_option maxRecDepth 20000 in
theorem gX0_findLeastTimes_X7_passTime : GoodIn wsX0_findLeastTimes (wsV RX0 64 RX7 yX7_passTime wsX7_passTime) := goodIn_app (goodIn_of _ (by decide +kernel)) ggX0_findLeastTimes_X7_passTime
set_option maxHeartbeats 4000000 in
set_option maxRecDepth 100000 in
theorem S_X0_findLeastTimes (l : Launch) (D : va_G) (K : Nat → ClassId) (a : Nat → Nat) (G : gS) (p0 : Int32) (s0 : Int) (e0 : p0.toInt = s0) (h0 : 0 ≤ s0 ∧ s0 ≤ 400) (hI : xI G) (sz : Nat) : Kv l yX0_findLeastTimes wsX0_findLeastTimes 3 86 0 0 D [.ref (a 7), .int p0] (xW K a G) (tK K) sz (fun (G' : gS) => (xI G') ∧ (gu_un xcd [5000, 5100] G G') ∧ ((∀ (Q : gS) (C : Nat → List Int), xSq G Q C → clK (fun f => ((G 49) f).toInt) (tmT Q) (clT (G' 50) (G' 51)) 20 (s0).toNat ∧ clB (G' 50) (G' 51) (s0).toNat))) (fun (G' : gS) => (xW K a G')) (fun _ => (tK K)) := by
  unfold Kv
  refine g_ofW (cc := cX0_findLeastTimes) (lv := [(0, .ref (a 7)), (1, .int p0)]) (by decide) rfl (Nat.le_of_ble_eq_true rfl) rfl ?_
  intro p e s m args below meth c A Q hA hQ F hr hnm
  have hts := F.2.2.2.2.1
  have w_0 : (Cond.fieldLink RX0 9 "QuietCut$Chooser" "speedOf" "[I").before args s = true := hts _ (List.mem_of_getElem? (i := 3) rfl)
  have i_X0 : ∀ w ∈ u_ws RX0 TX0 8, w ∈ wsX0_findLeastTimes := fun _ h => List.mem_cons_of_mem _ (List.mem_append_left _ (List.mem_append_right _ h))
  have w_1 : (Cond.fieldLink RX0 24 "QuietCut$Chooser" "shop" "LQuietCut$Shop;").before args s = true := hts _ (List.mem_of_getElem? (i := 4) rfl)
  have w_2 : (Cond.fieldLink RX0 15 "QuietCut$Chooser" "leastTime" "[I").before args s = true := hts _ (List.mem_of_getElem? (i := 1) rfl)
  have w_3 : (Cond.fieldLink RX0 18 "QuietCut$Chooser" "fewest" "[I").before args s = true := hts _ (List.mem_of_getElem? (i := 2) rfl)
  have J_50 : ∀ (fuel : Nat) (x50_2 : Int32) (Gj50 : gS), (2147483647 - x50_2.toInt).toNat < fuel → (1 ≤ x50_2.toInt ∧ x50_2.toInt ≤ 21) → (xI Gj50) → (gu_un xcd [5000, 5100] G Gj50) → (∀ (Q : gS) (C : Nat → List Int), xSq G Q C → clK (fun f => (G 49 f).toInt) (tmT Q) (clT (Gj50 50) (Gj50 51)) ((x50_2.toInt).toNat - 1) s0.toNat ∧ clB (Gj50 50) (Gj50 51) s0.toNat) → gG p l e (gR 3 0 0 86) s m args below meth c D A 3 Q 0 0 (xW K a Gj50) (tK K) [(0, .ref (a 7)), (1, .int p0), (2, .int x50_2)] 50 [] := by
    intro fuel
    induction fuel with
    | zero => intro x50_2 Gj50 hm; exact absurd hm (Nat.not_lt_zero _)
    | succ fuel_50 ih_50 =>
      intro x50_2 Gj50 hm_50 h50_2 jI50 jU50 fk
      refine g_iload_n F 2 dX0_findLeastTimes_50 rfl rfl ?_
      refine g_bipush F 20 dX0_findLeastTimes_51 (by decide) ?_
      refine v_icmp_gt F 90 dX0_findLeastTimes_53 (by decide) x50_2.toInt 20 rfl rfl (fun c1 => ?_) (fun c1 => ?_)
      · exact u_vret F hA hQ hr Gj50 (⟨jI50, (gu_un.tr gu_un.rf (gu_un.su jU50 rfl)), (fun Q C hq => by have g1 := fk Q C hq; rw [show (x50_2.toInt).toNat - 1 = 20 by omega] at g1; exact g1)⟩) rfl rfl dX0_findLeastTimes_90
      · refine g_aload_n F 0 dX0_findLeastTimes_56 rfl rfl ?_
        refine xg_7_3 F i_X0 w_0 dX0_findLeastTimes_57 ?_
        refine g_iload_n F 2 dX0_findLeastTimes_60 rfl rfl ?_
        refine u1_iald F 49 0 xc_49 rfl x50_2.toInt rfl (by omega) (by omega) dX0_findLeastTimes_61 ((G 49) (x50_2.toInt).toNat) (congrFun ((show Gj50 49 = G 49 from funext fun k_ => jU50 49 k_ (show (4900 : Nat) ∉ ([5000, 5100] : List Nat) by decide))) _) ?_
        have b2 : (0 : Int) ≤ ((G 49) (x50_2.toInt).toNat).toInt ∧ ((G 49) (x50_2.toInt).toNat).toInt ≤ 9 := hI 49 _
        refine v_if_eq F 84 dX0_findLeastTimes_62 (by decide) ((G 49) (x50_2.toInt).toNat).toInt rfl (fun c3 => ?_) (fun c3 => ?_)
        · refine u_iinc F (fun v_ => [(2, .int v_), (0, .ref (a 7)), (1, .int p0)]) dX0_findLeastTimes_84 (j := 2) rfl x50_2.toInt 1 rfl rfl (by omega) (by omega) (by decide) (fun _ => rfl) (fun y4 ey4 => ?_)
          refine g_goto F 50 dX0_findLeastTimes_87 (by decide) ?_
          refine g_locals [(0, .ref (a 7)), (1, .int p0), (2, .int y4)] [1, 2, 0] rfl ?_
          exact ih_50 y4 Gj50 (by omega) (by have h9 := ti_rng y4; omega) jI50 (gu_un.tr gu_un.rf (gu_un.su jU50 rfl)) (fun Q C hq => by obtain ⟨g1, g2⟩ := fk Q C hq; rw [show (y4.toInt).toNat - 1 = (x50_2.toInt).toNat by omega]; exact ⟨clK.skip g1 (by omega) (by show (G 49 (x50_2.toInt).toNat).toInt = 0; omega), g2⟩)
        · refine g_aload_n F 0 dX0_findLeastTimes_65 rfl rfl ?_
          refine g_iload_n F 2 dX0_findLeastTimes_66 rfl rfl ?_
          refine g_aload_n F 0 dX0_findLeastTimes_67 rfl rfl ?_
          refine xg_7_0 F i_X0 w_1 dX0_findLeastTimes_68 ?_
          refine g_aload_n F 0 dX0_findLeastTimes_71 rfl rfl ?_
          refine xg_7_3 F i_X0 w_0 dX0_findLeastTimes_72 ?_
          refine g_iload_n F 2 dX0_findLeastTimes_75 rfl rfl ?_
          refine u1_iald F 49 0 xc_49 rfl x50_2.toInt rfl (by omega) (by omega) dX0_findLeastTimes_76 ((G 49) (x50_2.toInt).toNat) (congrFun ((show Gj50 49 = G 49 from funext fun k_ => jU50 49 k_ (show (4900 : Nat) ∉ ([5000, 5100] : List Nat) by decide))) _) ?_
          have b5 : (0 : Int) ≤ ((G 49) (x50_2.toInt).toNat).toInt ∧ ((G 49) (x50_2.toInt).toNat).toInt ≤ 9 := hI 49 _
          refine u_callVi (k := 0) (n := 0) (b := a 2) (As := [.int ((G 49) (x50_2.toInt).toNat)]) (st := [.int x50_2, .ref (a 7)]) F (fun sz => S_X7_passTime_2_b9 l D K a Gj50 ((G 49) (x50_2.toInt).toNat) ((G 49) (x50_2.toInt).toNat).toInt rfl (by omega) jI50 sz) (cwV 1 hts gX0_findLeastTimes_X7_passTime rfl rfl rfl (by decide +kernel) ⟨Nat.le_of_ble_eq_true rfl, Nat.le_of_ble_eq_true rfl⟩) rfl 2 xc_2 rfl (Nat.le_of_ble_eq_true rfl) ⟨Nat.zero_le _, Nat.zero_le _⟩ dX0_findLeastTimes_77 (fun r6 _ hw7 => ?_)
          have q9 : (∀ (Q : gS) (C : Nat → List Int), xSq Gj50 Q C → r6.toInt = tmT Q ((G 49) (x50_2.toInt).toNat).toInt) := hw7.2
          have rg10 := hw7.1
          clear hw7
          refine g_iload_n F 1 dX0_findLeastTimes_80 rfl rfl ?_
          refine u_callVv (k := 0) (n := 0) (b := a 7) (As := [.int x50_2, .int r6, .int p0]) (st := []) F (fun sz => S_X0_growTimes l D K a Gj50 x50_2 x50_2.toInt r6 r6.toInt p0 s0 rfl (by omega) rfl e0 (by omega) jI50 sz) (cwV 3 hts gX0_findLeastTimes_X0_growTimes rfl rfl rfl (by decide +kernel) ⟨Nat.le_of_ble_eq_true rfl, Nat.le_of_ble_eq_true rfl⟩) rfl 7 xc_7 rfl (Nat.le_of_ble_eq_true rfl) ⟨Nat.zero_le _, Nat.zero_le _⟩ dX0_findLeastTimes_81 (fun G13 hw12 => ?_)
          have hI14 : xI G13 := hw12.1
          have hU15 : gu_un xcd [5000, 5100] Gj50 G13 := hw12.2.1
          have hp16 := hw12.2.2
          have q17 : (∀ (S : Nat → Int) (T : Int → Int), S (x50_2.toInt).toNat ≠ 0 → T (S (x50_2.toInt).toNat) = r6.toInt → 0 ≤ r6.toInt → r6.toInt ≤ 3456 → clB (Gj50 50) (Gj50 51) (s0).toNat → clK S T (clT (Gj50 50) (Gj50 51)) ((x50_2.toInt).toNat - 1) (s0).toNat → clK S T (clT (G13 50) (G13 51)) (x50_2.toInt).toNat (s0).toNat ∧ clB (G13 50) (G13 51) (s0).toNat) := hp16
          clear hp16 hw12
          refine u_iinc F (fun v_ => [(2, .int v_), (0, .ref (a 7)), (1, .int p0)]) dX0_findLeastTimes_84 (j := 2) rfl x50_2.toInt 1 rfl rfl (by omega) (by omega) (by decide) (fun _ => rfl) (fun y18 ey18 => ?_)
          refine g_goto F 50 dX0_findLeastTimes_87 (by decide) ?_
          refine g_locals [(0, .ref (a 7)), (1, .int p0), (2, .int y18)] [1, 2, 0] rfl ?_
          exact ih_50 y18 G13 (by omega) (by have h9 := ti_rng y18; omega) hI14 (gu_un.tr (gu_un.tr gu_un.rf (gu_un.su jU50 rfl)) (gu_un.su hU15 rfl)) (fun Q C hq => by obtain ⟨g1, g2⟩ := fk Q C hq; rw [show (y18.toInt).toNat - 1 = (x50_2.toInt).toNat by omega]; have ht := q9 Q C (xSq.un hq (show gu_un xcd [5000, 5100] G Gj50 from (gu_un.tr gu_un.rf (gu_un.su jU50 rfl))) rfl); exact q17 (fun f => (G 49 f).toInt) (tmT Q) (by show (G 49 (x50_2.toInt).toNat).toInt ≠ 0; omega) ht.symm (by omega) (by omega) g2 g1)
  have J_16 : ∀ (fuel : Nat) (x16_2 : Int32) (Gj16 : gS), (2147483647 - x16_2.toInt).toNat < fuel → (1 ≤ x16_2.toInt ∧ x16_2.toInt ≤ 401) → (xI Gj16) → (gu_un xcd [5000, 5100] G Gj16) → ((Gj16 50 0).toInt = 0 ∧ (Gj16 51 0).toInt = 0 ∧ ∀ u : Nat, 1 ≤ u → (u : Int) < x16_2.toInt → (Gj16 50 u).toInt = -1) → gG p l e (gR 3 0 0 86) s m args below meth c D A 3 Q 0 0 (xW K a Gj16) (tK K) [(0, .ref (a 7)), (1, .int p0), (2, .int x16_2)] 16 [] := by
    intro fuel
    induction fuel with
    | zero => intro x16_2 Gj16 hm; exact absurd hm (Nat.not_lt_zero _)
    | succ fuel_16 ih_16 =>
      intro x16_2 Gj16 hm_16 h16_2 jI16 jU16 fi
      refine g_iload_n F 2 dX0_findLeastTimes_16 rfl rfl ?_
      refine g_iload_n F 1 dX0_findLeastTimes_17 rfl rfl ?_
      refine v_icmp_gt F 48 dX0_findLeastTimes_18 (by decide) x16_2.toInt s0 rfl e0 (fun c19 => ?_) (fun c19 => ?_)
      · refine g_iconst F 1 dX0_findLeastTimes_48 (by decide) ?_
        refine g_istore_n F [(2, .int 1), (0, .ref (a 7)), (1, .int p0)] dX0_findLeastTimes_49 rfl (by decide) rfl ?_
        refine g_locals [(0, .ref (a 7)), (1, .int p0), (2, .int 1)] [1, 2, 0] rfl ?_
        exact J_50 _ 1 Gj16 (Nat.lt_succ_self _) (by decide) jI16 (gu_un.tr gu_un.rf (gu_un.su jU16 rfl)) (fun Q C hq => by rw [show (Int32.toInt 1).toNat - 1 = 0 by decide]; exact cl_0 fi.1 fi.2.1 (fun u h1 h2 => fi.2.2 u h1 (by omega)))
      · refine g_iload_n F 2 dX0_findLeastTimes_21 rfl rfl ?_
        refine g_sipush F 400 dX0_findLeastTimes_22 (by decide) ?_
        refine v_icmp_gt F 48 dX0_findLeastTimes_25 (by decide) x16_2.toInt 400 rfl rfl (fun c20 => absurd c20 (by omega)) (fun c20 => ?_)
        refine g_aload_n F 0 dX0_findLeastTimes_28 rfl rfl ?_
        refine xg_7_4 F i_X0 w_2 dX0_findLeastTimes_29 ?_
        refine g_iload_n F 2 dX0_findLeastTimes_32 rfl rfl ?_
        refine g_iconst F (-1) dX0_findLeastTimes_33 (by decide) ?_
        refine u_iast F 50 0 xc_50 rfl x16_2.toInt rfl (by omega) (by omega) (xW K a (gu_up Gj16 50 (x16_2.toInt).toNat (-1))) (xs_50 _) dX0_findLeastTimes_34 ?_
        refine g_aload_n F 0 dX0_findLeastTimes_35 rfl rfl ?_
        refine xg_7_5 F i_X0 w_3 dX0_findLeastTimes_36 ?_
        refine g_iload_n F 2 dX0_findLeastTimes_39 rfl rfl ?_
        refine g_iconst F 0 dX0_findLeastTimes_40 (by decide) ?_
        refine u_iast F 51 0 xc_51 rfl x16_2.toInt rfl (by omega) (by omega) (xW K a (gu_up (gu_up Gj16 50 (x16_2.toInt).toNat (-1)) 51 (x16_2.toInt).toNat 0)) (xs_51 _) dX0_findLeastTimes_41 ?_
        refine u_iinc F (fun v_ => [(2, .int v_), (0, .ref (a 7)), (1, .int p0)]) dX0_findLeastTimes_42 (j := 2) rfl x16_2.toInt 1 rfl rfl (by omega) (by omega) (by decide) (fun _ => rfl) (fun y21 ey21 => ?_)
        refine g_goto F 16 dX0_findLeastTimes_45 (by decide) ?_
        refine g_locals [(0, .ref (a 7)), (1, .int p0), (2, .int y21)] [1, 2, 0] rfl ?_
        exact ih_16 y21 (gu_up (gu_up Gj16 50 (x16_2.toInt).toNat (-1)) 51 (x16_2.toInt).toNat 0) (by omega) (by have h9 := ti_rng y21; omega) (gu_I.up (j := 51) (k := (x16_2.toInt).toNat) (v := 0) (gu_I.up (j := 50) (k := (x16_2.toInt).toNat) (v := (-1)) jI16 (ti_rng _).1 (ti_rng _).2) (ti_rng _).1 (ti_rng _).2) (gu_un.up (j := 51) (k := (x16_2.toInt).toNat) (v := 0) (gu_un.up (j := 50) (k := (x16_2.toInt).toNat) (v := (-1)) (gu_un.tr gu_un.rf (gu_un.su jU16 rfl)) (show (5000 : Nat) ∈ ([5000, 5100] : List Nat) by decide)) (show (5100 : Nat) ∈ ([5000, 5100] : List Nat) by decide)) (⟨by show (upd (Gj16 50) (x16_2.toInt).toNat (-1) 0).toInt = 0; unfold upd; rw [if_neg (by omega)]; exact fi.1, by show (upd (Gj16 51) (x16_2.toInt).toNat 0 0).toInt = 0; unfold upd; rw [if_neg (by omega)]; exact fi.2.1, fun u h1 h2 => by show (upd (Gj16 50) (x16_2.toInt).toNat (-1) u).toInt = -1; unfold upd; by_cases e : u = (x16_2.toInt).toNat <;> first | (rw [if_pos e]; rfl) | (rw [if_neg e]; exact fi.2.2 u h1 (by omega))⟩)
  refine g_aload_n F 0 dX0_findLeastTimes_0 rfl rfl ?_
  refine xg_7_4 F i_X0 w_2 dX0_findLeastTimes_1 ?_
  refine g_iconst F 0 dX0_findLeastTimes_4 (by decide) ?_
  refine g_iconst F 0 dX0_findLeastTimes_5 (by decide) ?_
  refine u_iast F 50 0 xc_50 rfl 0 rfl (by decide) (by decide) (xW K a (gu_up G 50 0 0)) (xs_50 _) dX0_findLeastTimes_6 ?_
  refine g_aload_n F 0 dX0_findLeastTimes_7 rfl rfl ?_
  refine xg_7_5 F i_X0 w_3 dX0_findLeastTimes_8 ?_
  refine g_iconst F 0 dX0_findLeastTimes_11 (by decide) ?_
  refine g_iconst F 0 dX0_findLeastTimes_12 (by decide) ?_
  refine u_iast F 51 0 xc_51 rfl 0 rfl (by decide) (by decide) (xW K a (gu_up (gu_up G 50 0 0) 51 0 0)) (xs_51 _) dX0_findLeastTimes_13 ?_
  refine g_iconst F 1 dX0_findLeastTimes_14 (by decide) ?_
  refine g_istore_n F [(2, .int 1), (0, .ref (a 7)), (1, .int p0)] dX0_findLeastTimes_15 rfl (by decide) rfl ?_
  refine g_locals [(0, .ref (a 7)), (1, .int p0), (2, .int 1)] [1, 2, 0] rfl ?_
  exact J_16 _ 1 (gu_up (gu_up G 50 0 0) 51 0 0) (Nat.lt_succ_self _) (by decide) (gu_I.up (j := 51) (k := 0) (v := 0) (gu_I.up (j := 50) (k := 0) (v := 0) hI (ti_rng _).1 (ti_rng _).2) (ti_rng _).1 (ti_rng _).2) (gu_un.up (j := 51) (k := 0) (v := 0) (gu_un.up (j := 50) (k := 0) (v := 0) gu_un.rf (show (5000 : Nat) ∈ ([5000, 5100] : List Nat) by decide)) (show (5100 : Nat) ∈ ([5000, 5100] : List Nat) by decide)) (⟨rfl, rfl, fun u h1 h2 => by have h3 : (u : Int) < 1 := h2; omega⟩)

theorem dX0_leastOpening_0 : decode cX0_leastOpening 0 = .ok (.iconst (-1), 1) := by decide +kernel
theorem dX0_leastOpening_1 : decode cX0_leastOpening 1 = .ok (.istore_n 2, 1) := by decide +kernel
theorem dX0_leastOpening_2 : decode cX0_leastOpening 2 = .ok (.iconst 1, 1) := by decide +kernel
theorem dX0_leastOpening_3 : decode cX0_leastOpening 3 = .ok (.istore_n 3, 1) := by decide +kernel
theorem dX0_leastOpening_4 : decode cX0_leastOpening 4 = .ok (.iload_n 3, 1) := by decide +kernel
theorem dX0_leastOpening_5 : decode cX0_leastOpening 5 = .ok (.bipush 20, 2) := by decide +kernel
theorem dX0_leastOpening_7 : decode cX0_leastOpening 7 = .ok (.if_icmp .gt 140, 3) := by decide +kernel
theorem dX0_leastOpening_10 : decode cX0_leastOpening 10 = .ok (.iload_n 3, 1) := by decide +kernel
theorem dX0_leastOpening_11 : decode cX0_leastOpening 11 = .ok (.iload_n 1, 1) := by decide +kernel
theorem dX0_leastOpening_12 : decode cX0_leastOpening 12 = .ok (.if_icmp .gt 135, 3) := by decide +kernel
theorem dX0_leastOpening_15 : decode cX0_leastOpening 15 = .ok (.aload_n 0, 1) := by decide +kernel
theorem dX0_leastOpening_16 : decode cX0_leastOpening 16 = .ok (.getfield 9, 3) := by decide +kernel
theorem dX0_leastOpening_19 : decode cX0_leastOpening 19 = .ok (.iload_n 3, 1) := by decide +kernel
theorem dX0_leastOpening_20 : decode cX0_leastOpening 20 = .ok (.iaload, 1) := by decide +kernel
theorem dX0_leastOpening_21 : decode cX0_leastOpening 21 = .ok (.istore 4, 2) := by decide +kernel
theorem dX0_leastOpening_23 : decode cX0_leastOpening 23 = .ok (.iload_n 1, 1) := by decide +kernel
theorem dX0_leastOpening_24 : decode cX0_leastOpening 24 = .ok (.iload_n 3, 1) := by decide +kernel
theorem dX0_leastOpening_25 : decode cX0_leastOpening 25 = .ok (.isub, 1) := by decide +kernel
theorem dX0_leastOpening_26 : decode cX0_leastOpening 26 = .ok (.istore 5, 2) := by decide +kernel
theorem dX0_leastOpening_28 : decode cX0_leastOpening 28 = .ok (.iload 4, 2) := by decide +kernel
theorem dX0_leastOpening_30 : decode cX0_leastOpening 30 = .ok (.ifCond .eq 111, 3) := by decide +kernel
theorem dX0_leastOpening_33 : decode cX0_leastOpening 33 = .ok (.iload 5, 2) := by decide +kernel
theorem dX0_leastOpening_35 : decode cX0_leastOpening 35 = .ok (.sipush 400, 3) := by decide +kernel
theorem dX0_leastOpening_38 : decode cX0_leastOpening 38 = .ok (.if_icmp .gt 103, 3) := by decide +kernel
theorem dX0_leastOpening_41 : decode cX0_leastOpening 41 = .ok (.iload_n 1, 1) := by decide +kernel
theorem dX0_leastOpening_42 : decode cX0_leastOpening 42 = .ok (.sipush 400, 3) := by decide +kernel
theorem dX0_leastOpening_45 : decode cX0_leastOpening 45 = .ok (.if_icmp .gt 96, 3) := by decide +kernel
theorem dX0_leastOpening_48 : decode cX0_leastOpening 48 = .ok (.aload_n 0, 1) := by decide +kernel
theorem dX0_leastOpening_49 : decode cX0_leastOpening 49 = .ok (.getfield 15, 3) := by decide +kernel
theorem dX0_leastOpening_52 : decode cX0_leastOpening 52 = .ok (.iload 5, 2) := by decide +kernel
theorem dX0_leastOpening_54 : decode cX0_leastOpening 54 = .ok (.iaload, 1) := by decide +kernel
theorem dX0_leastOpening_55 : decode cX0_leastOpening 55 = .ok (.iconst (-1), 1) := by decide +kernel
theorem dX0_leastOpening_56 : decode cX0_leastOpening 56 = .ok (.if_icmp .ne 6, 3) := by decide +kernel
theorem dX0_leastOpening_59 : decode cX0_leastOpening 59 = .ok (.goto 82, 3) := by decide +kernel
theorem dX0_leastOpening_62 : decode cX0_leastOpening 62 = .ok (.bipush 20, 2) := by decide +kernel
theorem dX0_leastOpening_64 : decode cX0_leastOpening 64 = .ok (.iload 4, 2) := by decide +kernel
theorem dX0_leastOpening_66 : decode cX0_leastOpening 66 = .ok (.imul, 1) := by decide +kernel
theorem dX0_leastOpening_67 : decode cX0_leastOpening 67 = .ok (.iload_n 3, 1) := by decide +kernel
theorem dX0_leastOpening_68 : decode cX0_leastOpening 68 = .ok (.iadd, 1) := by decide +kernel
theorem dX0_leastOpening_69 : decode cX0_leastOpening 69 = .ok (.istore 6, 2) := by decide +kernel
theorem dX0_leastOpening_71 : decode cX0_leastOpening 71 = .ok (.aload_n 0, 1) := by decide +kernel
theorem dX0_leastOpening_72 : decode cX0_leastOpening 72 = .ok (.getfield 15, 3) := by decide +kernel
theorem dX0_leastOpening_75 : decode cX0_leastOpening 75 = .ok (.iload 5, 2) := by decide +kernel
theorem dX0_leastOpening_77 : decode cX0_leastOpening 77 = .ok (.iaload, 1) := by decide +kernel
theorem dX0_leastOpening_78 : decode cX0_leastOpening 78 = .ok (.aload_n 0, 1) := by decide +kernel
theorem dX0_leastOpening_79 : decode cX0_leastOpening 79 = .ok (.getfield 24, 3) := by decide +kernel
theorem dX0_leastOpening_82 : decode cX0_leastOpening 82 = .ok (.iload 4, 2) := by decide +kernel
theorem dX0_leastOpening_84 : decode cX0_leastOpening 84 = .ok (.invokevirtual 64, 3) := by decide +kernel
theorem dX0_leastOpening_87 : decode cX0_leastOpening 87 = .ok (.iadd, 1) := by decide +kernel
theorem dX0_leastOpening_88 : decode cX0_leastOpening 88 = .ok (.aload_n 0, 1) := by decide +kernel
theorem dX0_leastOpening_89 : decode cX0_leastOpening 89 = .ok (.getfield 15, 3) := by decide +kernel
theorem dX0_leastOpening_92 : decode cX0_leastOpening 92 = .ok (.iload_n 1, 1) := by decide +kernel
theorem dX0_leastOpening_93 : decode cX0_leastOpening 93 = .ok (.iaload, 1) := by decide +kernel
theorem dX0_leastOpening_94 : decode cX0_leastOpening 94 = .ok (.if_icmp .ne 25, 3) := by decide +kernel
theorem dX0_leastOpening_97 : decode cX0_leastOpening 97 = .ok (.aload_n 0, 1) := by decide +kernel
theorem dX0_leastOpening_98 : decode cX0_leastOpening 98 = .ok (.getfield 18, 3) := by decide +kernel
theorem dX0_leastOpening_101 : decode cX0_leastOpening 101 = .ok (.iload 5, 2) := by decide +kernel
theorem dX0_leastOpening_103 : decode cX0_leastOpening 103 = .ok (.iaload, 1) := by decide +kernel
theorem dX0_leastOpening_104 : decode cX0_leastOpening 104 = .ok (.iconst 1, 1) := by decide +kernel
theorem dX0_leastOpening_105 : decode cX0_leastOpening 105 = .ok (.iadd, 1) := by decide +kernel
theorem dX0_leastOpening_106 : decode cX0_leastOpening 106 = .ok (.aload_n 0, 1) := by decide +kernel
theorem dX0_leastOpening_107 : decode cX0_leastOpening 107 = .ok (.getfield 18, 3) := by decide +kernel
theorem dX0_leastOpening_110 : decode cX0_leastOpening 110 = .ok (.iload_n 1, 1) := by decide +kernel
theorem dX0_leastOpening_111 : decode cX0_leastOpening 111 = .ok (.iaload, 1) := by decide +kernel
theorem dX0_leastOpening_112 : decode cX0_leastOpening 112 = .ok (.if_icmp .ne 7, 3) := by decide +kernel
theorem dX0_leastOpening_115 : decode cX0_leastOpening 115 = .ok (.iconst 1, 1) := by decide +kernel
theorem dX0_leastOpening_116 : decode cX0_leastOpening 116 = .ok (.goto 4, 3) := by decide +kernel
theorem dX0_leastOpening_119 : decode cX0_leastOpening 119 = .ok (.iconst 0, 1) := by decide +kernel
theorem dX0_leastOpening_120 : decode cX0_leastOpening 120 = .ok (.istore 7, 2) := by decide +kernel
theorem dX0_leastOpening_122 : decode cX0_leastOpening 122 = .ok (.iload 7, 2) := by decide +kernel
theorem dX0_leastOpening_124 : decode cX0_leastOpening 124 = .ok (.ifCond .eq 17, 3) := by decide +kernel
theorem dX0_leastOpening_127 : decode cX0_leastOpening 127 = .ok (.iload_n 2, 1) := by decide +kernel
theorem dX0_leastOpening_128 : decode cX0_leastOpening 128 = .ok (.iconst (-1), 1) := by decide +kernel
theorem dX0_leastOpening_129 : decode cX0_leastOpening 129 = .ok (.if_icmp .eq 9, 3) := by decide +kernel
theorem dX0_leastOpening_132 : decode cX0_leastOpening 132 = .ok (.iload 6, 2) := by decide +kernel
theorem dX0_leastOpening_134 : decode cX0_leastOpening 134 = .ok (.iload_n 2, 1) := by decide +kernel
theorem dX0_leastOpening_135 : decode cX0_leastOpening 135 = .ok (.if_icmp .ge 6, 3) := by decide +kernel
theorem dX0_leastOpening_138 : decode cX0_leastOpening 138 = .ok (.iload 6, 2) := by decide +kernel
theorem dX0_leastOpening_140 : decode cX0_leastOpening 140 = .ok (.istore_n 2, 1) := by decide +kernel
theorem dX0_leastOpening_141 : decode cX0_leastOpening 141 = .ok (.iinc 3 1, 3) := by decide +kernel
theorem dX0_leastOpening_144 : decode cX0_leastOpening 144 = .ok (.goto (-140), 3) := by decide +kernel
theorem dX0_leastOpening_147 : decode cX0_leastOpening 147 = .ok (.iload_n 2, 1) := by decide +kernel
theorem dX0_leastOpening_148 : decode cX0_leastOpening 148 = .ok (.ireturn, 1) := by decide +kernel
set_option maxRecDepth 20000 in
theorem ggX0_leastOpening_X7_passTime : GoodIn wsX0_leastOpening wsX7_passTime := goodIn_r _ [9, 10, 11, 12, 13, 8, 14, 15, 16, 17, 18, 27, 28, 29, 30] rfl (by decide +kernel)
set_option maxRecDepth 20000 in
theorem gX0_leastOpening_X7_passTime : GoodIn wsX0_leastOpening (wsV RX0 64 RX7 yX7_passTime wsX7_passTime) := goodIn_app (goodIn_of _ (by decide +kernel)) ggX0_leastOpening_X7_passTime
set_option maxHeartbeats 4000000 in
set_option maxRecDepth 100000 in
theorem S_X0_leastOpening (l : Launch) (D : va_G) (K : Nat → ClassId) (a : Nat → Nat) (G : gS) (p0 : Int32) (s0 : Int) (e0 : p0.toInt = s0) (hI : xI G) (sz : Nat) : Ki l yX0_leastOpening wsX0_leastOpening 3 86 0 0 D [.ref (a 7), .int p0] (xW K a G) (tK K) sz (fun (r : Int32) (_ : Unit) => ((-1) ≤ r.toInt ∧ r.toInt ≤ 200) ∧ ((∀ (Q : gS) (C : Nat → List Int) (P : Int → Int → Prop) (n : Nat), xSq G Q C → clS P (fun f => ((G 49) f).toInt) n → plK P (tmT Q) (clT (G 50) (G 51)) n → clB (G 50) (G 51) n → 1 ≤ s0 → s0 ≤ (n : Int) → n ≤ 400 → clT (G 50) (G 51) (s0).toNat ≠ -1 → plL P (tmT Q) (clT (G 50) (G 51)) s0 r.toInt)) ∧ ((r.toInt = -1 ∨ (21 ≤ r.toInt ∧ (r.toInt - 1) % 20 + 1 ≤ s0)))) (fun (_ : Unit) => (xW K a G)) (fun _ => (tK K)) := by
  unfold Ki
  refine g_ofW (cc := cX0_leastOpening) (lv := [(0, .ref (a 7)), (1, .int p0)]) (by decide) rfl (Nat.le_of_ble_eq_true rfl) rfl ?_
  intro p e s m args below meth c A Q hA hQ F hr hnm
  have hts := F.2.2.2.2.1
  have w_0 : (Cond.fieldLink RX0 9 "QuietCut$Chooser" "speedOf" "[I").before args s = true := hts _ (List.mem_of_getElem? (i := 1) rfl)
  have i_X0 : ∀ w ∈ u_ws RX0 TX0 8, w ∈ wsX0_leastOpening := fun _ h => List.mem_cons_of_mem _ (List.mem_append_left _ (List.mem_append_right _ h))
  have w_1 : (Cond.fieldLink RX0 15 "QuietCut$Chooser" "leastTime" "[I").before args s = true := hts _ (List.mem_of_getElem? (i := 2) rfl)
  have w_2 : (Cond.fieldLink RX0 24 "QuietCut$Chooser" "shop" "LQuietCut$Shop;").before args s = true := hts _ (List.mem_of_getElem? (i := 3) rfl)
  have w_3 : (Cond.fieldLink RX0 18 "QuietCut$Chooser" "fewest" "[I").before args s = true := hts _ (List.mem_of_getElem? (i := 4) rfl)
  have rg0 : -2147483648 ≤ s0 ∧ s0 ≤ 2147483647 := e0 ▸ ti_rng p0
  have b1 : (4 : Int) ≤ (G 18 0).toInt ∧ (G 18 0).toInt ≤ 16 := hI 18 0
  have b2 : (1 : Int) ≤ (G 18 9).toInt ∧ (G 18 9).toInt ≤ 12 := hI 18 9
  have J_4 : ∀ (fuel : Nat) (x4_2 : Int32) (x4_3 : Int32), (2147483647 - x4_3.toInt).toNat < fuel → ((-1) ≤ x4_2.toInt ∧ x4_2.toInt ≤ 200) → (1 ≤ x4_3.toInt ∧ x4_3.toInt ≤ 21) → (∀ (Q : gS) (C : Nat → List Int) (P : Int → Int → Prop) (n : Nat), xSq G Q C → clS P (fun f => ((G 49) f).toInt) n → plK P (tmT Q) (clT (G 50) (G 51)) n → clB (G 50) (G 51) n → 1 ≤ s0 → s0 ≤ (n : Int) → n ≤ 400 → clT (G 50) (G 51) (s0).toNat ≠ -1 → clL P (tmT Q) (clT (G 50) (G 51)) s0 x4_3.toInt x4_2.toInt) → ((x4_2.toInt = -1 ∨ (21 ≤ x4_2.toInt ∧ (x4_2.toInt - 1) % 20 + 1 ≤ s0))) → gG p l e (gR 3 0 0 86) s m args below meth c D A 8 Q 0 0 (xW K a G) (tK K) [(0, .ref (a 7)), (1, .int p0), (2, .int x4_2), (3, .int x4_3)] 4 [] := by
    intro fuel
    induction fuel with
    | zero => intro x4_2 x4_3 hm; exact absurd hm (Nat.not_lt_zero _)
    | succ fuel_4 ih_4 =>
      intro x4_2 x4_3 hm_4 h4_2 h4_3 cl lr
      refine g_iload_n F 3 dX0_leastOpening_4 rfl rfl ?_
      refine g_bipush F 20 dX0_leastOpening_5 (by decide) ?_
      refine v_icmp_gt F 147 dX0_leastOpening_7 (by decide) x4_3.toInt 20 rfl rfl (fun c3 => ?_) (fun c3 => ?_)
      · refine g_iload_n F 2 dX0_leastOpening_147 rfl rfl ?_
        exact u_iret F hA hQ hr () (⟨(by have h9 := ti_rng x4_2; omega), (fun Q C P n hq hS hK hB h1 h2 h4 hu => clL.fin (cl Q C P n hq hS hK hB h1 h2 h4 hu) (by omega) (plK.on hK h1 h2 hu)), (by show (x4_2.toInt = -1 ∨ (21 ≤ x4_2.toInt ∧ (x4_2.toInt - 1) % 20 + 1 ≤ s0)); (first | omega | (simp only [Int32.reduceToInt, true_and, and_true, ne_eq, not_true_eq_false, false_and, or_false, false_or, true_or, or_true, false_implies] <;> omega)))⟩) rfl rfl dX0_leastOpening_148
      · refine g_iload_n F 3 dX0_leastOpening_10 rfl rfl ?_
        refine g_iload_n F 1 dX0_leastOpening_11 rfl rfl ?_
        refine v_icmp_gt F 147 dX0_leastOpening_12 (by decide) x4_3.toInt s0 rfl e0 (fun c4 => ?_) (fun c4 => ?_)
        · refine g_iload_n F 2 dX0_leastOpening_147 rfl rfl ?_
          exact u_iret F hA hQ hr () (⟨(by have h9 := ti_rng x4_2; omega), (fun Q C P n hq hS hK hB h1 h2 h4 hu => clL.fin (cl Q C P n hq hS hK hB h1 h2 h4 hu) (by omega) (plK.on hK h1 h2 hu)), (by show (x4_2.toInt = -1 ∨ (21 ≤ x4_2.toInt ∧ (x4_2.toInt - 1) % 20 + 1 ≤ s0)); (first | omega | (simp only [Int32.reduceToInt, true_and, and_true, ne_eq, not_true_eq_false, false_and, or_false, false_or, true_or, or_true, false_implies] <;> omega)))⟩) rfl rfl dX0_leastOpening_148
        · refine g_aload_n F 0 dX0_leastOpening_15 rfl rfl ?_
          refine xg_7_3 F i_X0 w_0 dX0_leastOpening_16 ?_
          refine g_iload_n F 3 dX0_leastOpening_19 rfl rfl ?_
          refine u1_iald F 49 0 xc_49 rfl x4_3.toInt rfl (by omega) (by omega) dX0_leastOpening_20 ((G 49) (x4_3.toInt).toNat) (rfl) ?_
          have b5 : (0 : Int) ≤ ((G 49) (x4_3.toInt).toNat).toInt ∧ ((G 49) (x4_3.toInt).toNat).toInt ≤ 9 := hI 49 _
          refine g_istore F [(4, .int ((G 49) (x4_3.toInt).toNat)), (0, .ref (a 7)), (1, .int p0), (2, .int x4_2), (3, .int x4_3)] dX0_leastOpening_21 (by decide) rfl ?_
          refine g_iload_n F 2 dX0_leastOpening_23 rfl rfl ?_
          refine g_iload_n F 4 dX0_leastOpening_24 rfl rfl ?_
          refine u_isub F dX0_leastOpening_25 s0 x4_3.toInt e0 rfl (by omega) (by omega) (fun y6 ey6 => ?_)
          refine g_istore F [(5, .int y6), (4, .int ((G 49) (x4_3.toInt).toNat)), (0, .ref (a 7)), (1, .int p0), (2, .int x4_2), (3, .int x4_3)] dX0_leastOpening_26 (by decide) rfl ?_
          refine g_iload F 1 dX0_leastOpening_28 rfl ?_
          refine v_if_eq F 141 dX0_leastOpening_30 (by decide) ((G 49) (x4_3.toInt).toNat).toInt rfl (fun c7 => ?_) (fun c7 => ?_)
          · refine u_iinc F (fun v_ => [(3, .int v_), (5, .int y6), (4, .int ((G 49) (x4_3.toInt).toNat)), (0, .ref (a 7)), (1, .int p0), (2, .int x4_2)]) dX0_leastOpening_141 (j := 5) rfl x4_3.toInt 1 rfl rfl (by omega) (by omega) (by decide) (fun _ => rfl) (fun y8 ey8 => ?_)
            refine g_goto F 4 dX0_leastOpening_144 (by decide) ?_
            refine g_locals [(0, .ref (a 7)), (1, .int p0), (2, .int x4_2), (3, .int y8)] [3, 4, 5, 0] rfl ?_
            exact ih_4 x4_2 y8 (by omega) (by have h9 := ti_rng x4_2; omega) (by have h9 := ti_rng y8; omega) (fun Q C P n hq hS hK hB h1 h2 h4 hu => clL.go (c := 20 * (G 49 (x4_3.toInt).toNat).toInt + x4_3.toInt) (s := (G 49 (x4_3.toInt).toNat).toInt) (cl Q C P n hq hS hK hB h1 h2 h4 hu) (by omega) (fun m o e => by have k := cl_on hK hS (tmT_lt (by have k := (tmN_b (Q := Q) (by rw [hq.1 0 (by decide) (by decide)]; omega) (by rw [hq.1 0 (by decide) (by decide)]; omega) (by rw [hq.1 9 (by decide) (by decide)]; omega) (by rw [hq.1 9 (by decide) (by decide)]; omega)); exact k.1)) h1 h2 o; rw [e] at k; exact k.symm) rfl (by omega) (by omega) (Or.inl ⟨fun o => by have o1 := o.1; omega, rfl⟩)) (by (first | omega | (simp only [Int32.reduceToInt, true_and, and_true, ne_eq, not_true_eq_false, false_and, or_false, false_or, true_or, or_true, false_implies] <;> omega)))
          · refine g_iload F 0 dX0_leastOpening_33 rfl ?_
            refine g_sipush F 400 dX0_leastOpening_35 (by decide) ?_
            refine v_icmp_gt F 141 dX0_leastOpening_38 (by decide) y6.toInt 400 rfl rfl (fun c9 => ?_) (fun c9 => ?_)
            · refine u_iinc F (fun v_ => [(3, .int v_), (5, .int y6), (4, .int ((G 49) (x4_3.toInt).toNat)), (0, .ref (a 7)), (1, .int p0), (2, .int x4_2)]) dX0_leastOpening_141 (j := 5) rfl x4_3.toInt 1 rfl rfl (by omega) (by omega) (by decide) (fun _ => rfl) (fun y10 ey10 => ?_)
              refine g_goto F 4 dX0_leastOpening_144 (by decide) ?_
              refine g_locals [(0, .ref (a 7)), (1, .int p0), (2, .int x4_2), (3, .int y10)] [3, 4, 5, 0] rfl ?_
              exact ih_4 x4_2 y10 (by omega) (by have h9 := ti_rng x4_2; omega) (by have h9 := ti_rng y10; omega) (fun Q C P n hq hS hK hB h1 h2 h4 hu => by have cc := cl_c (T := tmT Q) (f := x4_3.toInt) hS hB (by omega) (by omega) (by omega) h2 h4 (show (G 49 (x4_3.toInt).toNat).toInt ≠ 0 by omega) hu; have b1 := hB (s0 - x4_3.toInt).toNat (by omega); have b2 := hB s0.toNat (by omega); exact clL.go (c := 20 * (G 49 (x4_3.toInt).toNat).toInt + x4_3.toInt) (s := (G 49 (x4_3.toInt).toNat).toInt) (cl Q C P n hq hS hK hB h1 h2 h4 hu) (by omega) (fun m o e => by have k := cl_on hK hS (tmT_lt (by have k := (tmN_b (Q := Q) (by rw [hq.1 0 (by decide) (by decide)]; omega) (by rw [hq.1 0 (by decide) (by decide)]; omega) (by rw [hq.1 9 (by decide) (by decide)]; omega) (by rw [hq.1 9 (by decide) (by decide)]; omega)); exact k.1)) h1 h2 o; rw [e] at k; exact k.symm) rfl (by omega) (by omega) (Or.inl ⟨fun o => by have o1 := cc.mp o; have o2 := o1.1; omega, rfl⟩)) (by (first | omega | (simp only [Int32.reduceToInt, true_and, and_true, ne_eq, not_true_eq_false, false_and, or_false, false_or, true_or, or_true, false_implies] <;> omega)))
            · refine g_iload_n F 3 dX0_leastOpening_41 rfl rfl ?_
              refine g_sipush F 400 dX0_leastOpening_42 (by decide) ?_
              refine v_icmp_gt F 141 dX0_leastOpening_45 (by decide) s0 400 e0 rfl (fun c11 => ?_) (fun c11 => ?_)
              · refine u_iinc F (fun v_ => [(3, .int v_), (5, .int y6), (4, .int ((G 49) (x4_3.toInt).toNat)), (0, .ref (a 7)), (1, .int p0), (2, .int x4_2)]) dX0_leastOpening_141 (j := 5) rfl x4_3.toInt 1 rfl rfl (by omega) (by omega) (by decide) (fun _ => rfl) (fun y12 ey12 => ?_)
                refine g_goto F 4 dX0_leastOpening_144 (by decide) ?_
                refine g_locals [(0, .ref (a 7)), (1, .int p0), (2, .int x4_2), (3, .int y12)] [3, 4, 5, 0] rfl ?_
                exact ih_4 x4_2 y12 (by omega) (by have h9 := ti_rng x4_2; omega) (by have h9 := ti_rng y12; omega) (fun Q C P n hq hS hK hB h1 h2 h4 hu => by have cc := cl_c (T := tmT Q) (f := x4_3.toInt) hS hB (by omega) (by omega) (by omega) h2 h4 (show (G 49 (x4_3.toInt).toNat).toInt ≠ 0 by omega) hu; have b1 := hB (s0 - x4_3.toInt).toNat (by omega); have b2 := hB s0.toNat (by omega); exact clL.go (c := 20 * (G 49 (x4_3.toInt).toNat).toInt + x4_3.toInt) (s := (G 49 (x4_3.toInt).toNat).toInt) (cl Q C P n hq hS hK hB h1 h2 h4 hu) (by omega) (fun m o e => by have k := cl_on hK hS (tmT_lt (by have k := (tmN_b (Q := Q) (by rw [hq.1 0 (by decide) (by decide)]; omega) (by rw [hq.1 0 (by decide) (by decide)]; omega) (by rw [hq.1 9 (by decide) (by decide)]; omega) (by rw [hq.1 9 (by decide) (by decide)]; omega)); exact k.1)) h1 h2 o; rw [e] at k; exact k.symm) rfl (by omega) (by omega) (Or.inl ⟨fun o => by have o1 := cc.mp o; have o2 := o1.1; omega, rfl⟩)) (by (first | omega | (simp only [Int32.reduceToInt, true_and, and_true, ne_eq, not_true_eq_false, false_and, or_false, false_or, true_or, or_true, false_implies] <;> omega)))
              · refine g_aload_n F 2 dX0_leastOpening_48 rfl rfl ?_
                refine xg_7_4 F i_X0 w_1 dX0_leastOpening_49 ?_
                refine g_iload F 0 dX0_leastOpening_52 rfl ?_
                refine u1_iald F 50 0 xc_50 rfl y6.toInt rfl (by omega) (by omega) dX0_leastOpening_54 ((G 50) ((s0 - x4_3.toInt)).toNat) (by rw [show y6.toInt = (s0 - x4_3.toInt) by omega] <;> rfl) ?_
                refine g_iconst F (-1) dX0_leastOpening_55 (by decide) ?_
                refine v_icmp_ne F 62 dX0_leastOpening_56 (by decide) ((G 50) ((s0 - x4_3.toInt)).toNat).toInt (-1) rfl rfl (fun c13 => ?_) (fun c13 => ?_)
                · refine g_bipush F 20 dX0_leastOpening_62 (by decide) ?_
                  refine g_iload F 1 dX0_leastOpening_64 rfl ?_
                  refine u_imul F dX0_leastOpening_66 20 ((G 49) (x4_3.toInt).toNat).toInt rfl rfl (by omega) (by omega) (fun y14 ey14 => ?_)
                  refine g_iload_n F 5 dX0_leastOpening_67 rfl rfl ?_
                  refine u_iadd F dX0_leastOpening_68 y14.toInt x4_3.toInt rfl rfl (by omega) (by omega) (fun y15 ey15 => ?_)
                  refine g_istore F [(6, .int y15), (5, .int y6), (4, .int ((G 49) (x4_3.toInt).toNat)), (0, .ref (a 7)), (1, .int p0), (2, .int x4_2), (3, .int x4_3)] dX0_leastOpening_69 (by decide) rfl ?_
                  refine g_aload_n F 3 dX0_leastOpening_71 rfl rfl ?_
                  refine xg_7_4 F i_X0 w_1 dX0_leastOpening_72 ?_
                  refine g_iload F 1 dX0_leastOpening_75 rfl ?_
                  refine u1_iald F 50 0 xc_50 rfl y6.toInt rfl (by omega) (by omega) dX0_leastOpening_77 ((G 50) ((s0 - x4_3.toInt)).toNat) (by rw [show y6.toInt = (s0 - x4_3.toInt) by omega] <;> rfl) ?_
                  refine g_aload_n F 3 dX0_leastOpening_78 rfl rfl ?_
                  refine xg_7_0 F i_X0 w_2 dX0_leastOpening_79 ?_
                  refine g_iload F 2 dX0_leastOpening_82 rfl ?_
                  refine u_callVi (k := 0) (n := 0) (b := a 2) (As := [.int ((G 49) (x4_3.toInt).toNat)]) (st := [.int ((G 50) ((s0 - x4_3.toInt)).toNat)]) F (fun sz => S_X7_passTime_2_b9 l D K a G ((G 49) (x4_3.toInt).toNat) ((G 49) (x4_3.toInt).toNat).toInt rfl (by omega) hI sz) (cwV 1 hts gX0_leastOpening_X7_passTime rfl rfl rfl (by decide +kernel) ⟨Nat.le_of_ble_eq_true rfl, Nat.le_of_ble_eq_true rfl⟩) rfl 2 xc_2 rfl (Nat.le_of_ble_eq_true rfl) ⟨Nat.zero_le _, Nat.zero_le _⟩ dX0_leastOpening_84 (fun r16 _ hw17 => ?_)
                  have q19 : (∀ (Q : gS) (C : Nat → List Int), xSq G Q C → r16.toInt = tmT Q ((G 49) (x4_3.toInt).toNat).toInt) := hw17.2
                  have rg20 := hw17.1
                  clear hw17
                  refine u_iaddc F dX0_leastOpening_87 ((G 50) ((s0 - x4_3.toInt)).toNat).toInt r16.toInt rfl rfl (fun y21 ey21 => ?_)
                  refine g_aload_n F 3 dX0_leastOpening_88 rfl rfl ?_
                  refine xg_7_4 F i_X0 w_1 dX0_leastOpening_89 ?_
                  refine g_iload_n F 4 dX0_leastOpening_92 rfl rfl ?_
                  refine u1_iald F 50 0 xc_50 rfl s0 e0 (by omega) (by omega) dX0_leastOpening_93 ((G 50) (s0).toNat) (rfl) ?_
                  have b22 := ti_rng y21
                  have b23 := ti_rng ((G 50) (s0).toNat)
                  refine v_icmp_ne F 119 dX0_leastOpening_94 (by decide) y21.toInt ((G 50) (s0).toNat).toInt rfl rfl (fun c24 => ?_) (fun c24 => ?_)
                  · refine g_iconst F 0 dX0_leastOpening_119 (by decide) ?_
                    refine g_istore F [(7, .int 0), (6, .int y15), (5, .int y6), (4, .int ((G 49) (x4_3.toInt).toNat)), (0, .ref (a 7)), (1, .int p0), (2, .int x4_2), (3, .int x4_3)] dX0_leastOpening_120 (by decide) rfl ?_
                    refine g_iload F 0 dX0_leastOpening_122 rfl ?_
                    refine v_if_eq F 141 dX0_leastOpening_124 (by decide) 0 rfl (fun c25 => ?_) (fun c25 => absurd c25 (by decide))
                    refine u_iinc F (fun v_ => [(3, .int v_), (7, .int 0), (6, .int y15), (5, .int y6), (4, .int ((G 49) (x4_3.toInt).toNat)), (0, .ref (a 7)), (1, .int p0), (2, .int x4_2)]) dX0_leastOpening_141 (j := 7) rfl x4_3.toInt 1 rfl rfl (by omega) (by omega) (by decide) (fun _ => rfl) (fun y26 ey26 => ?_)
                    refine g_goto F 4 dX0_leastOpening_144 (by decide) ?_
                    refine g_locals [(0, .ref (a 7)), (1, .int p0), (2, .int x4_2), (3, .int y26)] [5, 6, 7, 0] rfl ?_
                    exact ih_4 x4_2 y26 (by omega) (by have h9 := ti_rng x4_2; omega) (by have h9 := ti_rng y26; omega) (fun Q C P n hq hS hK hB h1 h2 h4 hu => by have cc := cl_c (T := tmT Q) (f := x4_3.toInt) hS hB (by omega) (by omega) (by omega) h2 h4 (show (G 49 (x4_3.toInt).toNat).toInt ≠ 0 by omega) hu; have b1 := hB (s0 - x4_3.toInt).toNat (by omega); have b2 := hB s0.toNat (by omega); have ht := q19 Q C (xSq.un hq (show gu_un xcd [] G G from gu_un.rf) rfl); exact clL.go (c := 20 * (G 49 (x4_3.toInt).toNat).toInt + x4_3.toInt) (s := (G 49 (x4_3.toInt).toNat).toInt) (cl Q C P n hq hS hK hB h1 h2 h4 hu) (by omega) (fun m o e => by have k := cl_on hK hS (tmT_lt (by have k := (tmN_b (Q := Q) (by rw [hq.1 0 (by decide) (by decide)]; omega) (by rw [hq.1 0 (by decide) (by decide)]; omega) (by rw [hq.1 9 (by decide) (by decide)]; omega) (by rw [hq.1 9 (by decide) (by decide)]; omega)); exact k.1)) h1 h2 o; rw [e] at k; exact k.symm) rfl (by omega) (by omega) (Or.inl ⟨fun o => by have o1 := cc.mp o; have o0 := o1.1; have o4 := o1.2.2; have o2 : (G 50 (s0 - x4_3.toInt).toNat).toInt + tmT Q (G 49 (x4_3.toInt).toNat).toInt = (G 50 s0.toNat).toInt := o1.2.1; omega, rfl⟩)) (by (first | omega | (simp only [Int32.reduceToInt, true_and, and_true, ne_eq, not_true_eq_false, false_and, or_false, false_or, true_or, or_true, false_implies] <;> omega)))
                  · refine g_aload_n F 3 dX0_leastOpening_97 rfl rfl ?_
                    refine xg_7_5 F i_X0 w_3 dX0_leastOpening_98 ?_
                    refine g_iload F 1 dX0_leastOpening_101 rfl ?_
                    refine u1_iald F 51 0 xc_51 rfl y6.toInt rfl (by omega) (by omega) dX0_leastOpening_103 ((G 51) ((s0 - x4_3.toInt)).toNat) (by rw [show y6.toInt = (s0 - x4_3.toInt) by omega] <;> rfl) ?_
                    refine g_iconst F 1 dX0_leastOpening_104 (by decide) ?_
                    refine u_iaddc F dX0_leastOpening_105 ((G 51) ((s0 - x4_3.toInt)).toNat).toInt 1 rfl rfl (fun y27 ey27 => ?_)
                    refine g_aload_n F 3 dX0_leastOpening_106 rfl rfl ?_
                    refine xg_7_5 F i_X0 w_3 dX0_leastOpening_107 ?_
                    refine g_iload_n F 4 dX0_leastOpening_110 rfl rfl ?_
                    refine u1_iald F 51 0 xc_51 rfl s0 e0 (by omega) (by omega) dX0_leastOpening_111 ((G 51) (s0).toNat) (rfl) ?_
                    have b28 := ti_rng y27
                    have b29 := ti_rng ((G 51) (s0).toNat)
                    refine v_icmp_ne F 119 dX0_leastOpening_112 (by decide) y27.toInt ((G 51) (s0).toNat).toInt rfl rfl (fun c30 => ?_) (fun c30 => ?_)
                    · refine g_iconst F 0 dX0_leastOpening_119 (by decide) ?_
                      refine g_istore F [(7, .int 0), (6, .int y15), (5, .int y6), (4, .int ((G 49) (x4_3.toInt).toNat)), (0, .ref (a 7)), (1, .int p0), (2, .int x4_2), (3, .int x4_3)] dX0_leastOpening_120 (by decide) rfl ?_
                      refine g_iload F 0 dX0_leastOpening_122 rfl ?_
                      refine v_if_eq F 141 dX0_leastOpening_124 (by decide) 0 rfl (fun c31 => ?_) (fun c31 => absurd c31 (by decide))
                      refine u_iinc F (fun v_ => [(3, .int v_), (7, .int 0), (6, .int y15), (5, .int y6), (4, .int ((G 49) (x4_3.toInt).toNat)), (0, .ref (a 7)), (1, .int p0), (2, .int x4_2)]) dX0_leastOpening_141 (j := 7) rfl x4_3.toInt 1 rfl rfl (by omega) (by omega) (by decide) (fun _ => rfl) (fun y32 ey32 => ?_)
                      refine g_goto F 4 dX0_leastOpening_144 (by decide) ?_
                      refine g_locals [(0, .ref (a 7)), (1, .int p0), (2, .int x4_2), (3, .int y32)] [5, 6, 7, 0] rfl ?_
                      exact ih_4 x4_2 y32 (by omega) (by have h9 := ti_rng x4_2; omega) (by have h9 := ti_rng y32; omega) (fun Q C P n hq hS hK hB h1 h2 h4 hu => by have cc := cl_c (T := tmT Q) (f := x4_3.toInt) hS hB (by omega) (by omega) (by omega) h2 h4 (show (G 49 (x4_3.toInt).toNat).toInt ≠ 0 by omega) hu; have b1 := hB (s0 - x4_3.toInt).toNat (by omega); have b2 := hB s0.toNat (by omega); have ht := q19 Q C (xSq.un hq (show gu_un xcd [] G G from gu_un.rf) rfl); exact clL.go (c := 20 * (G 49 (x4_3.toInt).toNat).toInt + x4_3.toInt) (s := (G 49 (x4_3.toInt).toNat).toInt) (cl Q C P n hq hS hK hB h1 h2 h4 hu) (by omega) (fun m o e => by have k := cl_on hK hS (tmT_lt (by have k := (tmN_b (Q := Q) (by rw [hq.1 0 (by decide) (by decide)]; omega) (by rw [hq.1 0 (by decide) (by decide)]; omega) (by rw [hq.1 9 (by decide) (by decide)]; omega) (by rw [hq.1 9 (by decide) (by decide)]; omega)); exact k.1)) h1 h2 o; rw [e] at k; exact k.symm) rfl (by omega) (by omega) (Or.inl ⟨fun o => by have o1 := cc.mp o; have o0 := o1.1; have o4 := o1.2.2; have o2 : (G 50 (s0 - x4_3.toInt).toNat).toInt + tmT Q (G 49 (x4_3.toInt).toNat).toInt = (G 50 s0.toNat).toInt := o1.2.1; omega, rfl⟩)) (by (first | omega | (simp only [Int32.reduceToInt, true_and, and_true, ne_eq, not_true_eq_false, false_and, or_false, false_or, true_or, or_true, false_implies] <;> omega)))
                    · refine g_iconst F 1 dX0_leastOpening_115 (by decide) ?_
                      refine g_goto F 120 dX0_leastOpening_116 (by decide) ?_
                      refine g_istore F [(7, .int 1), (6, .int y15), (5, .int y6), (4, .int ((G 49) (x4_3.toInt).toNat)), (0, .ref (a 7)), (1, .int p0), (2, .int x4_2), (3, .int x4_3)] dX0_leastOpening_120 (by decide) rfl ?_
                      refine g_iload F 0 dX0_leastOpening_122 rfl ?_
                      refine v_if_eq F 141 dX0_leastOpening_124 (by decide) 1 rfl (fun c33 => absurd c33 (by decide)) (fun c33 => ?_)
                      refine g_iload_n F 6 dX0_leastOpening_127 rfl rfl ?_
                      refine g_iconst F (-1) dX0_leastOpening_128 (by decide) ?_
                      refine v_icmp_eq F 138 dX0_leastOpening_129 (by decide) x4_2.toInt (-1) rfl rfl (fun c34 => ?_) (fun c34 => ?_)
                      · refine g_iload F 1 dX0_leastOpening_138 rfl ?_
                        refine g_istore_n F [(2, .int y15), (7, .int 1), (6, .int y15), (5, .int y6), (4, .int ((G 49) (x4_3.toInt).toNat)), (0, .ref (a 7)), (1, .int p0), (3, .int x4_3)] dX0_leastOpening_140 rfl (by decide) rfl ?_
                        refine u_iinc F (fun v_ => [(3, .int v_), (2, .int y15), (7, .int 1), (6, .int y15), (5, .int y6), (4, .int ((G 49) (x4_3.toInt).toNat)), (0, .ref (a 7)), (1, .int p0)]) dX0_leastOpening_141 (j := 7) rfl x4_3.toInt 1 rfl rfl (by omega) (by omega) (by decide) (fun _ => rfl) (fun y35 ey35 => ?_)
                        refine g_goto F 4 dX0_leastOpening_144 (by decide) ?_
                        refine g_locals [(0, .ref (a 7)), (1, .int p0), (2, .int y15), (3, .int y35)] [6, 7, 1, 0] rfl ?_
                        exact ih_4 y15 y35 (by omega) (by have h9 := ti_rng y15; omega) (by have h9 := ti_rng y35; omega) (fun Q C P n hq hS hK hB h1 h2 h4 hu => by have cc := cl_c (T := tmT Q) (f := x4_3.toInt) hS hB (by omega) (by omega) (by omega) h2 h4 (show (G 49 (x4_3.toInt).toNat).toInt ≠ 0 by omega) hu; have b1 := hB (s0 - x4_3.toInt).toNat (by omega); have b2 := hB s0.toNat (by omega); have ht := q19 Q C (xSq.un hq (show gu_un xcd [] G G from gu_un.rf) rfl); have on : plOn P (tmT Q) (clT (G 50) (G 51)) s0 (20 * (G 49 (x4_3.toInt).toNat).toInt + x4_3.toInt) := cc.mpr ⟨by omega, by show (G 50 (s0 - x4_3.toInt).toNat).toInt + tmT Q (G 49 (x4_3.toInt).toNat).toInt = _; omega, by omega⟩; exact clL.go (c := 20 * (G 49 (x4_3.toInt).toNat).toInt + x4_3.toInt) (s := (G 49 (x4_3.toInt).toNat).toInt) (cl Q C P n hq hS hK hB h1 h2 h4 hu) (by omega) (fun m o e => by have k := cl_on hK hS (tmT_lt (by have k := (tmN_b (Q := Q) (by rw [hq.1 0 (by decide) (by decide)]; omega) (by rw [hq.1 0 (by decide) (by decide)]; omega) (by rw [hq.1 9 (by decide) (by decide)]; omega) (by rw [hq.1 9 (by decide) (by decide)]; omega)); exact k.1)) h1 h2 o; rw [e] at k; exact k.symm) rfl (by omega) (by omega) (Or.inr ⟨on, by omega⟩)) (by (first | omega | (simp only [Int32.reduceToInt, true_and, and_true, ne_eq, not_true_eq_false, false_and, or_false, false_or, true_or, or_true, false_implies] <;> omega)))
                      · refine g_iload F 1 dX0_leastOpening_132 rfl ?_
                        refine g_iload_n F 6 dX0_leastOpening_134 rfl rfl ?_
                        refine v_icmp_ge F 141 dX0_leastOpening_135 (by decide) y15.toInt x4_2.toInt rfl rfl (fun c36 => ?_) (fun c36 => ?_)
                        · refine u_iinc F (fun v_ => [(3, .int v_), (7, .int 1), (6, .int y15), (5, .int y6), (4, .int ((G 49) (x4_3.toInt).toNat)), (0, .ref (a 7)), (1, .int p0), (2, .int x4_2)]) dX0_leastOpening_141 (j := 7) rfl x4_3.toInt 1 rfl rfl (by omega) (by omega) (by decide) (fun _ => rfl) (fun y37 ey37 => ?_)
                          refine g_goto F 4 dX0_leastOpening_144 (by decide) ?_
                          refine g_locals [(0, .ref (a 7)), (1, .int p0), (2, .int x4_2), (3, .int y37)] [5, 6, 7, 0] rfl ?_
                          exact ih_4 x4_2 y37 (by omega) (by have h9 := ti_rng x4_2; omega) (by have h9 := ti_rng y37; omega) (fun Q C P n hq hS hK hB h1 h2 h4 hu => by have cc := cl_c (T := tmT Q) (f := x4_3.toInt) hS hB (by omega) (by omega) (by omega) h2 h4 (show (G 49 (x4_3.toInt).toNat).toInt ≠ 0 by omega) hu; have b1 := hB (s0 - x4_3.toInt).toNat (by omega); have b2 := hB s0.toNat (by omega); have ht := q19 Q C (xSq.un hq (show gu_un xcd [] G G from gu_un.rf) rfl); have on : plOn P (tmT Q) (clT (G 50) (G 51)) s0 (20 * (G 49 (x4_3.toInt).toNat).toInt + x4_3.toInt) := cc.mpr ⟨by omega, by show (G 50 (s0 - x4_3.toInt).toNat).toInt + tmT Q (G 49 (x4_3.toInt).toNat).toInt = _; omega, by omega⟩; exact clL.go (c := 20 * (G 49 (x4_3.toInt).toNat).toInt + x4_3.toInt) (s := (G 49 (x4_3.toInt).toNat).toInt) (cl Q C P n hq hS hK hB h1 h2 h4 hu) (by omega) (fun m o e => by have k := cl_on hK hS (tmT_lt (by have k := (tmN_b (Q := Q) (by rw [hq.1 0 (by decide) (by decide)]; omega) (by rw [hq.1 0 (by decide) (by decide)]; omega) (by rw [hq.1 9 (by decide) (by decide)]; omega) (by rw [hq.1 9 (by decide) (by decide)]; omega)); exact k.1)) h1 h2 o; rw [e] at k; exact k.symm) rfl (by omega) (by omega) (Or.inr ⟨on, by omega⟩)) (by (first | omega | (simp only [Int32.reduceToInt, true_and, and_true, ne_eq, not_true_eq_false, false_and, or_false, false_or, true_or, or_true, false_implies] <;> omega)))
                        · refine g_iload F 1 dX0_leastOpening_138 rfl ?_
                          refine g_istore_n F [(2, .int y15), (7, .int 1), (6, .int y15), (5, .int y6), (4, .int ((G 49) (x4_3.toInt).toNat)), (0, .ref (a 7)), (1, .int p0), (3, .int x4_3)] dX0_leastOpening_140 rfl (by decide) rfl ?_
                          refine u_iinc F (fun v_ => [(3, .int v_), (2, .int y15), (7, .int 1), (6, .int y15), (5, .int y6), (4, .int ((G 49) (x4_3.toInt).toNat)), (0, .ref (a 7)), (1, .int p0)]) dX0_leastOpening_141 (j := 7) rfl x4_3.toInt 1 rfl rfl (by omega) (by omega) (by decide) (fun _ => rfl) (fun y38 ey38 => ?_)
                          refine g_goto F 4 dX0_leastOpening_144 (by decide) ?_
                          refine g_locals [(0, .ref (a 7)), (1, .int p0), (2, .int y15), (3, .int y38)] [6, 7, 1, 0] rfl ?_
                          exact ih_4 y15 y38 (by omega) (by have h9 := ti_rng y15; omega) (by have h9 := ti_rng y38; omega) (fun Q C P n hq hS hK hB h1 h2 h4 hu => by have cc := cl_c (T := tmT Q) (f := x4_3.toInt) hS hB (by omega) (by omega) (by omega) h2 h4 (show (G 49 (x4_3.toInt).toNat).toInt ≠ 0 by omega) hu; have b1 := hB (s0 - x4_3.toInt).toNat (by omega); have b2 := hB s0.toNat (by omega); have ht := q19 Q C (xSq.un hq (show gu_un xcd [] G G from gu_un.rf) rfl); have on : plOn P (tmT Q) (clT (G 50) (G 51)) s0 (20 * (G 49 (x4_3.toInt).toNat).toInt + x4_3.toInt) := cc.mpr ⟨by omega, by show (G 50 (s0 - x4_3.toInt).toNat).toInt + tmT Q (G 49 (x4_3.toInt).toNat).toInt = _; omega, by omega⟩; exact clL.go (c := 20 * (G 49 (x4_3.toInt).toNat).toInt + x4_3.toInt) (s := (G 49 (x4_3.toInt).toNat).toInt) (cl Q C P n hq hS hK hB h1 h2 h4 hu) (by omega) (fun m o e => by have k := cl_on hK hS (tmT_lt (by have k := (tmN_b (Q := Q) (by rw [hq.1 0 (by decide) (by decide)]; omega) (by rw [hq.1 0 (by decide) (by decide)]; omega) (by rw [hq.1 9 (by decide) (by decide)]; omega) (by rw [hq.1 9 (by decide) (by decide)]; omega)); exact k.1)) h1 h2 o; rw [e] at k; exact k.symm) rfl (by omega) (by omega) (Or.inr ⟨on, by omega⟩)) (by (first | omega | (simp only [Int32.reduceToInt, true_and, and_true, ne_eq, not_true_eq_false, false_and, or_false, false_or, true_or, or_true, false_implies] <;> omega)))
                · refine g_goto F 141 dX0_leastOpening_59 (by decide) ?_
                  refine u_iinc F (fun v_ => [(3, .int v_), (5, .int y6), (4, .int ((G 49) (x4_3.toInt).toNat)), (0, .ref (a 7)), (1, .int p0), (2, .int x4_2)]) dX0_leastOpening_141 (j := 5) rfl x4_3.toInt 1 rfl rfl (by omega) (by omega) (by decide) (fun _ => rfl) (fun y39 ey39 => ?_)
                  refine g_goto F 4 dX0_leastOpening_144 (by decide) ?_
                  refine g_locals [(0, .ref (a 7)), (1, .int p0), (2, .int x4_2), (3, .int y39)] [3, 4, 5, 0] rfl ?_
                  exact ih_4 x4_2 y39 (by omega) (by have h9 := ti_rng x4_2; omega) (by have h9 := ti_rng y39; omega) (fun Q C P n hq hS hK hB h1 h2 h4 hu => by have cc := cl_c (T := tmT Q) (f := x4_3.toInt) hS hB (by omega) (by omega) (by omega) h2 h4 (show (G 49 (x4_3.toInt).toNat).toInt ≠ 0 by omega) hu; have b1 := hB (s0 - x4_3.toInt).toNat (by omega); have b2 := hB s0.toNat (by omega); exact clL.go (c := 20 * (G 49 (x4_3.toInt).toNat).toInt + x4_3.toInt) (s := (G 49 (x4_3.toInt).toNat).toInt) (cl Q C P n hq hS hK hB h1 h2 h4 hu) (by omega) (fun m o e => by have k := cl_on hK hS (tmT_lt (by have k := (tmN_b (Q := Q) (by rw [hq.1 0 (by decide) (by decide)]; omega) (by rw [hq.1 0 (by decide) (by decide)]; omega) (by rw [hq.1 9 (by decide) (by decide)]; omega) (by rw [hq.1 9 (by decide) (by decide)]; omega)); exact k.1)) h1 h2 o; rw [e] at k; exact k.symm) rfl (by omega) (by omega) (Or.inl ⟨fun o => by have o1 := cc.mp o; have o2 := o1.1; omega, rfl⟩)) (by (first | omega | (simp only [Int32.reduceToInt, true_and, and_true, ne_eq, not_true_eq_false, false_and, or_false, false_or, true_or, or_true, false_implies] <;> omega)))
  refine g_iconst F (-1) dX0_leastOpening_0 (by decide) ?_
  refine g_istore_n F [(2, .int (-1)), (0, .ref (a 7)), (1, .int p0)] dX0_leastOpening_1 rfl (by decide) rfl ?_
  refine g_iconst F 1 dX0_leastOpening_2 (by decide) ?_
  refine g_istore_n F [(3, .int 1), (2, .int (-1)), (0, .ref (a 7)), (1, .int p0)] dX0_leastOpening_3 rfl (by decide) rfl ?_
  refine g_locals [(0, .ref (a 7)), (1, .int p0), (2, .int (-1)), (3, .int 1)] [2, 3, 1, 0] rfl ?_
  exact J_4 _ (-1) 1 (Nat.lt_succ_self _) (by decide) (by decide) (fun Q C P n hq hS hK hB h1 h2 h4 hu => Or.inl ⟨by decide, fun m o h => by have b := plF_b (m := m); have h9 : plF m < 1 := h; omega⟩) (by (first | omega | (simp only [Int32.reduceToInt, true_and, and_true, ne_eq, not_true_eq_false, false_and, or_false, false_or, true_or, or_true, false_implies] <;> omega)))


set_option maxHeartbeats 4000000 in
set_option maxRecDepth 100000 in
theorem S_X0_feedOf_b200 (l : Launch) (D : va_G)  (p0 : Int32) (s0 : Int) (e0 : p0.toInt = s0) (h0 : 21 ≤ s0 ∧ s0 ≤ 200) (sz : Nat) : Ki l yX0_feedOf wsX0_feedOf 1 40 0 0 D [.int p0] [] [] sz (fun (r : Int32) (_ : Unit) => (1 ≤ r.toInt ∧ r.toInt ≤ 20) ∧ (r.toInt = ((s0 - 1) % 20 + 1))) (fun (_ : Unit) => []) (fun _ => []) := by
  unfold Ki
  refine g_ofW (cc := cX0_feedOf) (lv := [(0, .int p0)]) (by decide) rfl (Nat.le_of_ble_eq_true rfl) rfl ?_
  intro p e s m args below meth c A Q hA hQ F hr hnm
  have hts := F.2.2.2.2.1
  refine g_iload_n F 0 dX0_feedOf_0 rfl rfl ?_
  refine g_iconst F 1 dX0_feedOf_1 (by decide) ?_
  refine u_isub F dX0_feedOf_2 s0 1 e0 rfl (by omega) (by omega) (fun y1 ey1 => ?_)
  refine g_bipush F 20 dX0_feedOf_3 (by decide) ?_
  refine u_irem F dX0_feedOf_5 (by decide) y1.toInt 20 rfl rfl (by omega) (by omega) (fun y2 ey2 => ?_)
  refine g_iconst F 1 dX0_feedOf_6 (by decide) ?_
  refine u_iadd F dX0_feedOf_7 y2.toInt 1 rfl rfl (by omega) (by omega) (fun y3 ey3 => ?_)
  exact u_iret F hA hQ hr () (⟨(by have h9 := ti_rng y3; omega), (by omega)⟩) rfl rfl dX0_feedOf_8

theorem dX0_keepLeastRow_0 : decode cX0_keepLeastRow 0 = .ok (.aload_n 0, 1) := by decide +kernel
theorem dX0_keepLeastRow_1 : decode cX0_keepLeastRow 1 = .ok (.iconst 0, 1) := by decide +kernel
theorem dX0_keepLeastRow_2 : decode cX0_keepLeastRow 2 = .ok (.putfield 111, 3) := by decide +kernel
theorem dX0_keepLeastRow_5 : decode cX0_keepLeastRow 5 = .ok (.iload_n 1, 1) := by decide +kernel
theorem dX0_keepLeastRow_6 : decode cX0_keepLeastRow 6 = .ok (.istore_n 2, 1) := by decide +kernel
theorem dX0_keepLeastRow_7 : decode cX0_keepLeastRow 7 = .ok (.iconst 0, 1) := by decide +kernel
theorem dX0_keepLeastRow_8 : decode cX0_keepLeastRow 8 = .ok (.istore_n 3, 1) := by decide +kernel
theorem dX0_keepLeastRow_9 : decode cX0_keepLeastRow 9 = .ok (.iload_n 3, 1) := by decide +kernel
theorem dX0_keepLeastRow_10 : decode cX0_keepLeastRow 10 = .ok (.sipush 400, 3) := by decide +kernel
theorem dX0_keepLeastRow_13 : decode cX0_keepLeastRow 13 = .ok (.if_icmp .ge 56, 3) := by decide +kernel
theorem dX0_keepLeastRow_16 : decode cX0_keepLeastRow 16 = .ok (.iload_n 2, 1) := by decide +kernel
theorem dX0_keepLeastRow_17 : decode cX0_keepLeastRow 17 = .ok (.ifCond .le 52, 3) := by decide +kernel
theorem dX0_keepLeastRow_20 : decode cX0_keepLeastRow 20 = .ok (.aload_n 0, 1) := by decide +kernel
theorem dX0_keepLeastRow_21 : decode cX0_keepLeastRow 21 = .ok (.iload_n 2, 1) := by decide +kernel
theorem dX0_keepLeastRow_22 : decode cX0_keepLeastRow 22 = .ok (.invokevirtual 114, 3) := by decide +kernel
theorem dX0_keepLeastRow_25 : decode cX0_keepLeastRow 25 = .ok (.istore 4, 2) := by decide +kernel
theorem dX0_keepLeastRow_27 : decode cX0_keepLeastRow 27 = .ok (.iload 4, 2) := by decide +kernel
theorem dX0_keepLeastRow_29 : decode cX0_keepLeastRow 29 = .ok (.iconst (-1), 1) := by decide +kernel
theorem dX0_keepLeastRow_30 : decode cX0_keepLeastRow 30 = .ok (.if_icmp .ne 4, 3) := by decide +kernel
theorem dX0_keepLeastRow_33 : decode cX0_keepLeastRow 33 = .ok (.return_, 1) := by decide +kernel
theorem dX0_keepLeastRow_34 : decode cX0_keepLeastRow 34 = .ok (.aload_n 0, 1) := by decide +kernel
theorem dX0_keepLeastRow_35 : decode cX0_keepLeastRow 35 = .ok (.getfield 21, 3) := by decide +kernel
theorem dX0_keepLeastRow_38 : decode cX0_keepLeastRow 38 = .ok (.aload_n 0, 1) := by decide +kernel
theorem dX0_keepLeastRow_39 : decode cX0_keepLeastRow 39 = .ok (.getfield 111, 3) := by decide +kernel
theorem dX0_keepLeastRow_42 : decode cX0_keepLeastRow 42 = .ok (.iload 4, 2) := by decide +kernel
theorem dX0_keepLeastRow_44 : decode cX0_keepLeastRow 44 = .ok (.iastore, 1) := by decide +kernel
theorem dX0_keepLeastRow_45 : decode cX0_keepLeastRow 45 = .ok (.aload_n 0, 1) := by decide +kernel
theorem dX0_keepLeastRow_46 : decode cX0_keepLeastRow 46 = .ok (.dup, 1) := by decide +kernel
theorem dX0_keepLeastRow_47 : decode cX0_keepLeastRow 47 = .ok (.getfield 111, 3) := by decide +kernel
theorem dX0_keepLeastRow_50 : decode cX0_keepLeastRow 50 = .ok (.iconst 1, 1) := by decide +kernel
theorem dX0_keepLeastRow_51 : decode cX0_keepLeastRow 51 = .ok (.iadd, 1) := by decide +kernel
theorem dX0_keepLeastRow_52 : decode cX0_keepLeastRow 52 = .ok (.putfield 111, 3) := by decide +kernel
theorem dX0_keepLeastRow_55 : decode cX0_keepLeastRow 55 = .ok (.iload_n 2, 1) := by decide +kernel
theorem dX0_keepLeastRow_56 : decode cX0_keepLeastRow 56 = .ok (.iload 4, 2) := by decide +kernel
theorem dX0_keepLeastRow_58 : decode cX0_keepLeastRow 58 = .ok (.invokestatic 117, 3) := by decide +kernel
theorem dX0_keepLeastRow_61 : decode cX0_keepLeastRow 61 = .ok (.isub, 1) := by decide +kernel
theorem dX0_keepLeastRow_62 : decode cX0_keepLeastRow 62 = .ok (.istore_n 2, 1) := by decide +kernel
theorem dX0_keepLeastRow_63 : decode cX0_keepLeastRow 63 = .ok (.iinc 3 1, 3) := by decide +kernel
theorem dX0_keepLeastRow_66 : decode cX0_keepLeastRow 66 = .ok (.goto (-57), 3) := by decide +kernel
theorem dX0_keepLeastRow_69 : decode cX0_keepLeastRow 69 = .ok (.return_, 1) := by decide +kernel
set_option maxRecDepth 20000 in
theorem ggX0_keepLeastRow_X0_feedOf : GoodIn wsX0_keepLeastRow wsX0_feedOf := goodIn_r _ [28] rfl (by decide +kernel)
set_option maxRecDepth 20000 in
theorem gX0_keepLeastRow_X0_feedOf : GoodIn wsX0_keepLeastRow (va_wsS RX0 117 yX0_feedOf wsX0_feedOf) := goodIn_app (goodIn_of _ (by decide +kernel)) ggX0_keepLeastRow_X0_feedOf
set_option maxRecDepth 20000 in
theorem ggX0_keepLeastRow_X0_leastOpening : GoodIn wsX0_keepLeastRow wsX0_leastOpening := goodIn_r _ [7, 8, 9, 10, 11, 12, 13, 14, 15, 16, 17, 18, 19, 20, 21, 22, 23, 24, 25, 29, 30, 31, 32, 33, 34, 35, 36, 37, 38, 39, 40] rfl (by decide +kernel)
set_option maxRecDepth 20000 in
theorem gX0_keepLeastRow_X0_leastOpening : GoodIn wsX0_keepLeastRow (wsV RX0 114 RX0 yX0_leastOpening wsX0_leastOpening) := goodIn_app (goodIn_of _ (by decide +kernel)) ggX0_keepLeastRow_X0_leastOpening
set_option maxHeartbeats 4000000 in
set_option maxRecDepth 100000 in
theorem S_X0_keepLeastRow (l : Launch) (D : va_G) (K : Nat → ClassId) (a : Nat → Nat) (G : gS) (p0 : Int32) (s0 : Int) (e0 : p0.toInt = s0) (h0 : 0 ≤ s0 ∧ s0 ≤ 400) (hI : xI G) (sz : Nat) : Kv l yX0_keepLeastRow wsX0_keepLeastRow 4 113 0 0 D [.ref (a 7), .int p0] (xW K a G) (tK K) sz (fun (G' : gS) => (xI G') ∧ (gu_un xcd [708, 5200] G G') ∧ ((∀ (Q : gS) (C : Nat → List Int) (P : Int → Int → Prop), xSq G Q C → clS P (fun f => ((G 49) f).toInt) (s0).toNat → plK P (tmT Q) (clT (G 50) (G 51)) (s0).toNat → clB (G 50) (G 51) (s0).toNat → 1 ≤ s0 → s0 ≤ 400 → clT (G 50) (G 51) (s0).toNat ≠ -1 → plW P (tmT Q) (clT (G 50) (G 51)) s0 ((G' 7 7).toInt).toNat (G' 52) ∧ 1 ≤ (G' 7 7).toInt))) (fun (G' : gS) => (xW K a G')) (fun _ => (tK K)) := by
  unfold Kv
  refine g_ofW (cc := cX0_keepLeastRow) (lv := [(0, .ref (a 7)), (1, .int p0)]) (by decide) rfl (Nat.le_of_ble_eq_true rfl) rfl ?_
  intro p e s m args below meth c A Q hA hQ F hr hnm
  have hts := F.2.2.2.2.1
  have w_0 : (Cond.fieldLink RX0 21 "QuietCut$Chooser" "planRow" "[I").before args s = true := hts _ (List.mem_of_getElem? (i := 2) rfl)
  have i_X0 : ∀ w ∈ u_ws RX0 TX0 8, w ∈ wsX0_keepLeastRow := fun _ h => List.mem_cons_of_mem _ (List.mem_append_left _ (List.mem_append_right _ h))
  have w_1 : (Cond.fieldLink RX0 111 "QuietCut$Chooser" "planMany" "I").before args s = true := hts _ (List.mem_of_getElem? (i := 1) rfl)
  have J_9 : ∀ (fuel : Nat) (x9_2 : Int32) (x9_3 : Int32) (Gj9 : gS), (2147483647 - x9_3.toInt).toNat < fuel → (0 ≤ x9_2.toInt ∧ x9_2.toInt ≤ 400) → (0 ≤ x9_3.toInt ∧ x9_3.toInt ≤ 400) → (xI Gj9) → (gu_un xcd [708, 5200] G Gj9) → ((Gj9 7 7).toInt = x9_3.toInt) → (∀ (Q : gS) (C : Nat → List Int) (P : Int → Int → Prop), xSq G Q C → clS P (fun f => ((G 49) f).toInt) s0.toNat → plK P (tmT Q) (clT (G 50) (G 51)) s0.toNat → clB (G 50) (G 51) s0.toNat → 1 ≤ s0 → s0 ≤ 400 → clT (G 50) (G 51) s0.toNat ≠ -1 → (∀ j : Nat, j < (x9_3.toInt).toNat → 1 ≤ plD s0 (Gj9 52) j ∧ plL P (tmT Q) (clT (G 50) (G 51)) (plD s0 (Gj9 52) j) (Gj9 52 j).toInt) ∧ plD s0 (Gj9 52) (x9_3.toInt).toNat = x9_2.toInt ∧ 0 ≤ x9_2.toInt ∧ x9_2.toInt + x9_3.toInt ≤ s0 ∧ clT (G 50) (G 51) (x9_2.toInt).toNat ≠ -1) → gG p l e (gR 4 0 0 113) s m args below meth c D A 5 Q 0 0 (xW K a Gj9) (tK K) [(0, .ref (a 7)), (2, .int x9_2), (3, .int x9_3)] 9 [] := by
    intro fuel
    induction fuel with
    | zero => intro x9_2 x9_3 Gj9 hm; exact absurd hm (Nat.not_lt_zero _)
    | succ fuel_9 ih_9 =>
      intro x9_2 x9_3 Gj9 hm_9 h9_2 h9_3 jI9 jU9 hv kr
      refine g_iload_n F 2 dX0_keepLeastRow_9 rfl rfl ?_
      refine g_sipush F 400 dX0_keepLeastRow_10 (by decide) ?_
      refine v_icmp_ge F 69 dX0_keepLeastRow_13 (by decide) x9_3.toInt 400 rfl rfl (fun c1 => ?_) (fun c1 => ?_)
      · exact u_vret F hA hQ hr Gj9 (⟨jI9, (gu_un.tr gu_un.rf (gu_un.su jU9 rfl)), (fun Q C P hq hS hK hB h1 h4 hu => by obtain ⟨g1, g2, g3, g4, g5⟩ := kr Q C P hq hS hK hB h1 h4 hu; have z : x9_2.toInt = 0 := (by omega); rw [z] at g2; rw [show (Gj9 7 7).toInt = x9_3.toInt by omega]; exact ⟨⟨g1, g2⟩, by rcases (show x9_3.toInt = 0 ∨ 1 ≤ x9_3.toInt by omega) with c9 | c9 <;> first | (rw [c9] at g2; have g6 : s0 = 0 := g2; omega) | exact c9⟩)⟩) rfl rfl dX0_keepLeastRow_69
      · refine g_iload_n F 1 dX0_keepLeastRow_16 rfl rfl ?_
        refine v_if_le F 69 dX0_keepLeastRow_17 (by decide) x9_2.toInt rfl (fun c2 => ?_) (fun c2 => ?_)
        · exact u_vret F hA hQ hr Gj9 (⟨jI9, (gu_un.tr gu_un.rf (gu_un.su jU9 rfl)), (fun Q C P hq hS hK hB h1 h4 hu => by obtain ⟨g1, g2, g3, g4, g5⟩ := kr Q C P hq hS hK hB h1 h4 hu; have z : x9_2.toInt = 0 := (by omega); rw [z] at g2; rw [show (Gj9 7 7).toInt = x9_3.toInt by omega]; exact ⟨⟨g1, g2⟩, by rcases (show x9_3.toInt = 0 ∨ 1 ≤ x9_3.toInt by omega) with c9 | c9 <;> first | (rw [c9] at g2; have g6 : s0 = 0 := g2; omega) | exact c9⟩)⟩) rfl rfl dX0_keepLeastRow_69
        · refine g_aload_n F 0 dX0_keepLeastRow_20 rfl rfl ?_
          refine g_iload_n F 1 dX0_keepLeastRow_21 rfl rfl ?_
          refine u_callVi (k := 0) (n := 0) (b := a 7) (As := [.int x9_2]) (st := []) F (fun sz => S_X0_leastOpening l D K a Gj9 x9_2 x9_2.toInt rfl jI9 sz) (cwV 1 hts gX0_keepLeastRow_X0_leastOpening rfl rfl rfl (by decide +kernel) ⟨Nat.le_of_ble_eq_true rfl, Nat.le_of_ble_eq_true rfl⟩) rfl 7 xc_7 rfl (Nat.le_of_ble_eq_true rfl) ⟨Nat.zero_le _, Nat.zero_le _⟩ dX0_keepLeastRow_22 (fun r3 _ hw4 => ?_)
          have q6 : (∀ (Q : gS) (C : Nat → List Int) (P : Int → Int → Prop) (n : Nat), xSq Gj9 Q C → clS P (fun f => ((G 49) f).toInt) n → plK P (tmT Q) (clT (G 50) (G 51)) n → clB (G 50) (G 51) n → 1 ≤ x9_2.toInt → x9_2.toInt ≤ (n : Int) → n ≤ 400 → clT (G 50) (G 51) (x9_2.toInt).toNat ≠ -1 → plL P (tmT Q) (clT (G 50) (G 51)) x9_2.toInt r3.toInt) := by have h9 := hw4.2.1; (try simp only [(show Gj9 49 = (G 49) from (show Gj9 49 = G 49 from funext fun k_ => jU9 49 k_ (show (4900 : Nat) ∉ ([708, 5200] : List Nat) by decide))), (show Gj9 50 = (G 50) from (show Gj9 50 = G 50 from funext fun k_ => jU9 50 k_ (show (5000 : Nat) ∉ ([708, 5200] : List Nat) by decide))), (show Gj9 51 = (G 51) from (show Gj9 51 = G 51 from funext fun k_ => jU9 51 k_ (show (5100 : Nat) ∉ ([708, 5200] : List Nat) by decide))), (show Gj9 50 = (G 50) from (show Gj9 50 = G 50 from funext fun k_ => jU9 50 k_ (show (5000 : Nat) ∉ ([708, 5200] : List Nat) by decide))), (show Gj9 51 = (G 51) from (show Gj9 51 = G 51 from funext fun k_ => jU9 51 k_ (show (5100 : Nat) ∉ ([708, 5200] : List Nat) by decide))), (show Gj9 50 = (G 50) from (show Gj9 50 = G 50 from funext fun k_ => jU9 50 k_ (show (5000 : Nat) ∉ ([708, 5200] : List Nat) by decide))), (show Gj9 51 = (G 51) from (show Gj9 51 = G 51 from funext fun k_ => jU9 51 k_ (show (5100 : Nat) ∉ ([708, 5200] : List Nat) by decide))), (show Gj9 50 = (G 50) from (show Gj9 50 = G 50 from funext fun k_ => jU9 50 k_ (show (5000 : Nat) ∉ ([708, 5200] : List Nat) by decide))), (show Gj9 51 = (G 51) from (show Gj9 51 = G 51 from funext fun k_ => jU9 51 k_ (show (5100 : Nat) ∉ ([708, 5200] : List Nat) by decide)))] at h9); first | exact h9 | omega
          have q7 : (r3.toInt = -1 ∨ (21 ≤ r3.toInt ∧ (r3.toInt - 1) % 20 + 1 ≤ x9_2.toInt)) := hw4.2.2
          have rg8 := hw4.1
          clear hw4
          refine g_istore F [(4, .int r3), (0, .ref (a 7)), (2, .int x9_2), (3, .int x9_3)] dX0_keepLeastRow_25 (by decide) rfl ?_
          refine g_iload F 0 dX0_keepLeastRow_27 rfl ?_
          refine g_iconst F (-1) dX0_keepLeastRow_29 (by decide) ?_
          refine v_icmp_ne F 34 dX0_keepLeastRow_30 (by decide) r3.toInt (-1) rfl rfl (fun c9 => ?_) (fun c9 => ?_)
          · refine g_aload_n F 1 dX0_keepLeastRow_34 rfl rfl ?_
            refine xg_7_6 F i_X0 w_0 dX0_keepLeastRow_35 ?_
            refine g_aload_n F 1 dX0_keepLeastRow_38 rfl rfl ?_
            refine xg_7_7 F i_X0 w_1 dX0_keepLeastRow_39 (Gj9 7 7) (rfl) ?_
            refine g_iload F 0 dX0_keepLeastRow_42 rfl ?_
            have b10 : (0 : Int) ≤ (Gj9 7 7).toInt ∧ (Gj9 7 7).toInt ≤ 400 := jI9 7 7
            refine u_iast F 52 0 xc_52 rfl (Gj9 7 7).toInt rfl (by omega) (by omega) (xW K a (gu_up Gj9 52 ((Gj9 7 7).toInt).toNat r3)) (xs_52 _) dX0_keepLeastRow_44 ?_
            refine g_aload_n F 1 dX0_keepLeastRow_45 rfl rfl ?_
            refine g_dup F dX0_keepLeastRow_46 rfl ?_
            refine xg_7_7 F i_X0 w_1 dX0_keepLeastRow_47 (Gj9 7 7) (rfl) ?_
            refine g_iconst F 1 dX0_keepLeastRow_50 (by decide) ?_
            refine u_iadd F dX0_keepLeastRow_51 (Gj9 7 7).toInt 1 rfl rfl (by omega) (by omega) (fun y11 ey11 => ?_)
            refine xp_7_7 F i_X0 w_1 dX0_keepLeastRow_52 ?_
            refine g_iload_n F 2 dX0_keepLeastRow_55 rfl rfl ?_
            refine g_iload F 0 dX0_keepLeastRow_56 rfl ?_
            refine u_call0 (k := 0) (n := 0) (As := [.int r3]) (st := [.int x9_2]) F (fun sz => S_X0_feedOf_b200 l D r3 r3.toInt rfl (by omega) sz) (va_cwS 1 hts gX0_keepLeastRow_X0_feedOf rfl rfl rfl (by decide +kernel) ⟨Nat.le_of_ble_eq_true rfl, Nat.le_of_ble_eq_true rfl⟩) rfl (Nat.le_of_ble_eq_true rfl) ⟨Nat.zero_le _, Nat.zero_le _⟩ dX0_keepLeastRow_58 (fun r12 _ hw13 => ?_)
            have q15 : (r12.toInt = ((r3.toInt - 1) % 20 + 1)) := hw13.2
            have rg16 := hw13.1
            have rg17 := hw13.2
            clear hw13
            refine u_isub F dX0_keepLeastRow_61 x9_2.toInt r12.toInt rfl rfl (by omega) (by omega) (fun y18 ey18 => ?_)
            refine g_istore_n F [(2, .int y18), (4, .int r3), (0, .ref (a 7)), (3, .int x9_3)] dX0_keepLeastRow_62 rfl (by decide) rfl ?_
            refine u_iinc F (fun v_ => [(3, .int v_), (2, .int y18), (4, .int r3), (0, .ref (a 7))]) dX0_keepLeastRow_63 (j := 3) rfl x9_3.toInt 1 rfl rfl (by omega) (by omega) (by decide) (fun _ => rfl) (fun y19 ey19 => ?_)
            refine g_goto F 9 dX0_keepLeastRow_66 (by decide) ?_
            refine g_locals [(0, .ref (a 7)), (2, .int y18), (3, .int y19)] [3, 1, 0] rfl ?_
            exact ih_9 y18 y19 (gu_up (gu_up Gj9 52 ((Gj9 7 7).toInt).toNat r3) 7 7 y11) (by omega) (by have h9 := ti_rng y18; omega) (by have h9 := ti_rng y19; omega) (gu_I.up (j := 7) (k := 7) (v := y11) (gu_I.up (j := 52) (k := ((Gj9 7 7).toInt).toNat) (v := r3) jI9 (ti_rng _).1 (ti_rng _).2) (show (0 : Int) ≤ Int32.toInt y11 by omega) (show Int32.toInt y11 ≤ 400 by omega)) (gu_un.up (j := 7) (k := 7) (v := y11) (gu_un.up (j := 52) (k := ((Gj9 7 7).toInt).toNat) (v := r3) (gu_un.tr gu_un.rf (gu_un.su jU9 rfl)) (show (5200 : Nat) ∈ ([708, 5200] : List Nat) by decide)) (show (708 : Nat) ∈ ([708, 5200] : List Nat) by decide)) (by have e9_7_7 : (gu_up (gu_up Gj9 52 ((Gj9 7 7).toInt).toNat r3) 7 7 y11) 7 7 = y11 := rfl; (try simp only [e9_7_7, true_and, and_true]) <;> (first | omega | (simp only [Int32.reduceToInt, true_and, and_true, ne_eq, not_true_eq_false, false_and, or_false, false_or, true_or, or_true, false_implies] <;> omega))) (fun Q C P hq hS hK hB h1 h4 hu => by obtain ⟨g1, g2, g3, g4, g5⟩ := kr Q C P hq hS hK hB h1 h4 hu; have lo := q6 Q C P s0.toNat (xSq.un hq (show gu_un xcd [708, 5200] G Gj9 from (gu_un.tr gu_un.rf (gu_un.su jU9 rfl))) rfl) hS hK hB (by omega) (by omega) (by omega) g5; have k := plW_go (row' := (gu_up (gu_up Gj9 52 ((Gj9 7 7).toInt).toNat r3) 7 7 y11) 52) (v := r3) g1 g2 (by omega) lo rfl (by show upd (Gj9 52) _ _ = upd (Gj9 52) _ _; congr 1; omega); have fb := plF_b (m := r3.toInt); have on := lo.1.2.2.1; have os := lo.1.2.2.2.2.1; have ef : y18.toInt = x9_2.toInt - plF r3.toInt := (by unfold plF; omega); rw [show (y19.toInt).toNat = (x9_3.toInt).toNat + 1 by omega]; exact ⟨k.1, by rw [k.2]; exact ef.symm, by omega, by omega, by rw [ef]; exact os⟩)
          · exact u_vret F hA hQ hr Gj9 (⟨jI9, (gu_un.tr gu_un.rf (gu_un.su jU9 rfl)), (fun Q C P hq hS hK hB h1 h4 hu => by obtain ⟨g1, g2, g3, g4, g5⟩ := kr Q C P hq hS hK hB h1 h4 hu; have lo := q6 Q C P s0.toNat (xSq.un hq (show gu_un xcd [708, 5200] G Gj9 from (gu_un.tr gu_un.rf (gu_un.su jU9 rfl))) rfl) hS hK hB (by omega) (by omega) (by omega) g5; have o1 := lo.1.1; exfalso; omega)⟩) rfl rfl dX0_keepLeastRow_33
  refine g_aload_n F 0 dX0_keepLeastRow_0 rfl rfl ?_
  refine g_iconst F 0 dX0_keepLeastRow_1 (by decide) ?_
  refine xp_7_7 F i_X0 w_1 dX0_keepLeastRow_2 ?_
  refine g_iload_n F 1 dX0_keepLeastRow_5 rfl rfl ?_
  refine g_istore_n F [(2, .int p0), (0, .ref (a 7)), (1, .int p0)] dX0_keepLeastRow_6 rfl (by decide) rfl ?_
  refine g_iconst F 0 dX0_keepLeastRow_7 (by decide) ?_
  refine g_istore_n F [(3, .int 0), (2, .int p0), (0, .ref (a 7)), (1, .int p0)] dX0_keepLeastRow_8 rfl (by decide) rfl ?_
  refine g_locals [(0, .ref (a 7)), (2, .int p0), (3, .int 0)] [2, 1, 0] rfl ?_
  exact J_9 _ p0 0 (gu_up G 7 7 0) (Nat.lt_succ_self _) (by have h9 := ti_rng p0; omega) (by decide) (gu_I.up (j := 7) (k := 7) (v := 0) hI (show (0 : Int) ≤ (0 : Int32).toInt by decide) (show (0 : Int32).toInt ≤ 400 by decide)) (gu_un.up (j := 7) (k := 7) (v := 0) gu_un.rf (show (708 : Nat) ∈ ([708, 5200] : List Nat) by decide)) (by have e9_7_7 : (gu_up G 7 7 0) 7 7 = 0 := rfl; (try simp only [e9_7_7, true_and, and_true]) <;> (first | omega | (simp only [Int32.reduceToInt, true_and, and_true, ne_eq, not_true_eq_false, false_and, or_false, false_or, true_or, or_true, false_implies] <;> omega))) (fun Q C P hq hS hK hB h1 h4 hu => ⟨fun j hj => by have h9 : j < 0 := hj; omega, by rw [e0]; rfl, by omega, by have h8 : Int32.toInt 0 = 0 := (by decide); omega, by rw [e0]; exact hu⟩)

theorem dX0_planTime_0 : decode cX0_planTime 0 = .ok (.aload_n 0, 1) := by decide +kernel
theorem dX0_planTime_1 : decode cX0_planTime 1 = .ok (.getfield 24, 3) := by decide +kernel
theorem dX0_planTime_4 : decode cX0_planTime 4 = .ok (.getfield 36, 3) := by decide +kernel
theorem dX0_planTime_7 : decode cX0_planTime 7 = .ok (.bipush 9, 2) := by decide +kernel
theorem dX0_planTime_9 : decode cX0_planTime 9 = .ok (.iaload, 1) := by decide +kernel
theorem dX0_planTime_10 : decode cX0_planTime 10 = .ok (.istore_n 3, 1) := by decide +kernel
theorem dX0_planTime_11 : decode cX0_planTime 11 = .ok (.iload_n 3, 1) := by decide +kernel
theorem dX0_planTime_12 : decode cX0_planTime 12 = .ok (.iconst 1, 1) := by decide +kernel
theorem dX0_planTime_13 : decode cX0_planTime 13 = .ok (.if_icmp .lt 16, 3) := by decide +kernel
theorem dX0_planTime_16 : decode cX0_planTime 16 = .ok (.iload_n 2, 1) := by decide +kernel
theorem dX0_planTime_17 : decode cX0_planTime 17 = .ok (.iload_n 3, 1) := by decide +kernel
theorem dX0_planTime_18 : decode cX0_planTime 18 = .ok (.irem, 1) := by decide +kernel
theorem dX0_planTime_19 : decode cX0_planTime 19 = .ok (.ifCond .ne 10, 3) := by decide +kernel
theorem dX0_planTime_22 : decode cX0_planTime 22 = .ok (.iload_n 2, 1) := by decide +kernel
theorem dX0_planTime_23 : decode cX0_planTime 23 = .ok (.sipush 400, 3) := by decide +kernel
theorem dX0_planTime_26 : decode cX0_planTime 26 = .ok (.if_icmp .le 5, 3) := by decide +kernel
theorem dX0_planTime_29 : decode cX0_planTime 29 = .ok (.iconst (-1), 1) := by decide +kernel
theorem dX0_planTime_30 : decode cX0_planTime 30 = .ok (.ireturn, 1) := by decide +kernel
theorem dX0_planTime_31 : decode cX0_planTime 31 = .ok (.iload_n 2, 1) := by decide +kernel
theorem dX0_planTime_32 : decode cX0_planTime 32 = .ok (.iload_n 3, 1) := by decide +kernel
theorem dX0_planTime_33 : decode cX0_planTime 33 = .ok (.idiv, 1) := by decide +kernel
theorem dX0_planTime_34 : decode cX0_planTime 34 = .ok (.istore 4, 2) := by decide +kernel
theorem dX0_planTime_36 : decode cX0_planTime 36 = .ok (.aload_n 0, 1) := by decide +kernel
theorem dX0_planTime_37 : decode cX0_planTime 37 = .ok (.iload_n 1, 1) := by decide +kernel
theorem dX0_planTime_38 : decode cX0_planTime 38 = .ok (.iload 4, 2) := by decide +kernel
theorem dX0_planTime_40 : decode cX0_planTime 40 = .ok (.bipush 20, 2) := by decide +kernel
theorem dX0_planTime_42 : decode cX0_planTime 42 = .ok (.invokestatic 82, 3) := by decide +kernel
theorem dX0_planTime_45 : decode cX0_planTime 45 = .ok (.invokevirtual 88, 3) := by decide +kernel
theorem dX0_planTime_48 : decode cX0_planTime 48 = .ok (.aload_n 0, 1) := by decide +kernel
theorem dX0_planTime_49 : decode cX0_planTime 49 = .ok (.iload 4, 2) := by decide +kernel
theorem dX0_planTime_51 : decode cX0_planTime 51 = .ok (.invokevirtual 92, 3) := by decide +kernel
theorem dX0_planTime_54 : decode cX0_planTime 54 = .ok (.aload_n 0, 1) := by decide +kernel
theorem dX0_planTime_55 : decode cX0_planTime 55 = .ok (.getfield 15, 3) := by decide +kernel
theorem dX0_planTime_58 : decode cX0_planTime 58 = .ok (.iload 4, 2) := by decide +kernel
theorem dX0_planTime_60 : decode cX0_planTime 60 = .ok (.iaload, 1) := by decide +kernel
theorem dX0_planTime_61 : decode cX0_planTime 61 = .ok (.iconst (-1), 1) := by decide +kernel
theorem dX0_planTime_62 : decode cX0_planTime 62 = .ok (.if_icmp .ne 5, 3) := by decide +kernel
theorem dX0_planTime_65 : decode cX0_planTime 65 = .ok (.iconst (-1), 1) := by decide +kernel
theorem dX0_planTime_66 : decode cX0_planTime 66 = .ok (.ireturn, 1) := by decide +kernel
theorem dX0_planTime_67 : decode cX0_planTime 67 = .ok (.aload_n 0, 1) := by decide +kernel
theorem dX0_planTime_68 : decode cX0_planTime 68 = .ok (.iload 4, 2) := by decide +kernel
theorem dX0_planTime_70 : decode cX0_planTime 70 = .ok (.invokevirtual 95, 3) := by decide +kernel
theorem dX0_planTime_73 : decode cX0_planTime 73 = .ok (.aload_n 0, 1) := by decide +kernel
theorem dX0_planTime_74 : decode cX0_planTime 74 = .ok (.getfield 15, 3) := by decide +kernel
theorem dX0_planTime_77 : decode cX0_planTime 77 = .ok (.iload 4, 2) := by decide +kernel
theorem dX0_planTime_79 : decode cX0_planTime 79 = .ok (.iaload, 1) := by decide +kernel
theorem dX0_planTime_80 : decode cX0_planTime 80 = .ok (.ireturn, 1) := by decide +kernel
set_option maxRecDepth 20000 in
theorem ggX0_planTime_X0_findLeastTimes : GoodIn wsX0_planTime wsX0_findLeastTimes := goodIn_r _ [135, 7, 136, 13, 1, 137, 138, 139, 39, 140, 41, 141, 121, 122, 123, 142, 129, 130, 131, 143, 144, 145, 11, 146, 147, 64, 5, 65, 161, 162, 163, 164, 165, 166, 167, 168, 169, 170, 171, 172] rfl (by decide +kernel)
set_option maxRecDepth 20000 in
theorem gX0_planTime_X0_findLeastTimes : GoodIn wsX0_planTime (wsV RX0 92 RX0 yX0_findLeastTimes wsX0_findLeastTimes) := goodIn_app (goodIn_of _ (by decide +kernel)) ggX0_planTime_X0_findLeastTimes
set_option maxRecDepth 20000 in
theorem ggX0_planTime_X0_findSpeeds : GoodIn wsX0_planTime wsX0_findSpeeds := goodIn_r _ [12, 13, 14, 15, 16, 17, 18, 19, 20, 11, 21, 22, 1, 2, 23, 24, 25, 26, 27, 28, 29, 30, 31, 32, 33, 34, 35, 36, 37, 38, 39, 40, 41, 42, 43, 44, 45, 46, 47, 48, 49, 50, 51, 52, 53, 54, 55, 56, 57, 58, 59, 60, 61, 62, 63, 64, 5, 65, 66, 67, 68, 69, 70, 4, 6, 71, 72, 73, 74, 75, 76, 77, 78, 79, 80, 81, 82, 83, 84, 85, 86, 87, 88, 89, 90, 91, 92, 93, 94, 95, 96, 97, 98, 99, 100, 101, 102, 103, 104, 105, 106, 107, 108, 109, 110, 111, 112, 113, 114, 115, 116, 117, 118, 119, 120, 121, 122, 123, 124, 125, 126, 127, 128, 129, 130, 131, 161, 162, 163, 164, 165, 166, 167, 168, 169, 170, 171, 172, 173, 174, 175, 176, 177, 178, 179, 180, 181, 182, 183, 184, 185, 186, 187, 188, 189, 190, 191, 192, 193, 194, 195, 196, 197, 198, 199, 200, 201, 202, 203, 204, 205, 206] rfl (by decide +kernel)
set_option maxRecDepth 20000 in
theorem gX0_planTime_X0_findSpeeds : GoodIn wsX0_planTime (wsV RX0 88 RX0 yX0_findSpeeds wsX0_findSpeeds) := goodIn_app (goodIn_of _ (by decide +kernel)) ggX0_planTime_X0_findSpeeds
set_option maxRecDepth 20000 in
theorem ggX0_planTime_X0_keepLeastRow : GoodIn wsX0_planTime wsX0_keepLeastRow := goodIn_r _ [151, 152, 153, 154, 155, 156, 11, 157, 13, 7, 1, 136, 137, 138, 139, 39, 140, 41, 141, 121, 122, 123, 142, 129, 130, 131, 158, 159, 160, 161, 162, 163, 164, 165, 166, 167, 168, 169, 170, 171, 172] rfl (by decide +kernel)
set_option maxRecDepth 20000 in
theorem gX0_planTime_X0_keepLeastRow : GoodIn wsX0_planTime (wsV RX0 95 RX0 yX0_keepLeastRow wsX0_keepLeastRow) := goodIn_app (goodIn_of _ (by decide +kernel)) ggX0_planTime_X0_keepLeastRow
set_option maxHeartbeats 4000000 in
set_option maxRecDepth 100000 in
theorem S_X0_planTime (l : Launch) (D : va_G) (K : Nat → ClassId) (a : Nat → Nat) (G : gS) (p0 : Int32) (s0 : Int) (p1 : Int32) (s1 : Int) (e0 : p0.toInt = s0) (h0 : 0 ≤ s0 ∧ s0 ≤ 5) (e1 : p1.toInt = s1) (h1 : 1 ≤ s1 ∧ s1 ≤ 400) (hI : xI G) (sz : Nat) : Ki l yX0_planTime wsX0_planTime 7 197 0 0 D [.ref (a 7), .int p0, .int p1] (xW K a G) (tK K) sz (fun (r : Int32) (G' : gS) => (xI G') ∧ (gu_un xcd [602, 603, 604, 605, 608, 613, 614, 615, 616, 617, 618, 619, 620, 708, 2100, 2400, 2700, 4400, 4500, 4600, 4700, 4800, 4900, 5000, 5100, 5200] G G') ∧ ((∀ (Q : gS) (C : Nat → List Int), xTok G → lSp G → xSq G Q C → ((s1 % (Q 0 9).toInt ≠ 0 ∧ r.toInt = -1 ∧ G' 7 7 = (G 7 7) ∧ G' 52 = (G 52)) ∨ (s1 % (Q 0 9).toInt = 0 ∧ ∃ t : Nat → Int, plK (bsP Q C (G 38) (G 5 2) s0) (tmT Q) t (s1 / (Q 0 9).toInt).toNat ∧ ((t (s1 / (Q 0 9).toInt).toNat = -1 ∧ r.toInt = -1 ∧ G' 7 7 = (G 7 7) ∧ G' 52 = (G 52)) ∨ (t (s1 / (Q 0 9).toInt).toNat ≠ -1 ∧ r.toInt = t (s1 / (Q 0 9).toInt).toNat / 1000 ∧ 1 ≤ (G' 7 7).toInt ∧ plW (bsP Q C (G 38) (G 5 2) s0) (tmT Q) t (s1 / (Q 0 9).toInt) ((G' 7 7).toInt).toNat (G' 52)))))))) (fun (G' : gS) => (xW K a G')) (fun _ => (tK K)) := by
  unfold Ki
  refine g_ofW (cc := cX0_planTime) (lv := [(0, .ref (a 7)), (1, .int p0), (2, .int p1)]) (by decide) rfl (Nat.le_of_ble_eq_true rfl) rfl ?_
  intro p e s m args below meth c A Q hA hQ F hr hnm
  have hts := F.2.2.2.2.1
  have w_0 : (Cond.fieldLink RX0 24 "QuietCut$Chooser" "shop" "LQuietCut$Shop;").before args s = true := hts _ (List.mem_of_getElem? (i := 1) rfl)
  have i_X0 : ∀ w ∈ u_ws RX0 TX0 8, w ∈ wsX0_planTime := fun _ h => List.mem_cons_of_mem _ (List.mem_append_left _ (List.mem_append_left _ (List.mem_append_left _ (List.mem_append_left _ (List.mem_append_right _ h)))))
  have w_1 : (Cond.fieldLink RX0 36 "QuietCut$Shop" "numbers" "[I").before args s = true := hts _ (List.mem_of_getElem? (i := 2) rfl)
  have i_X7 : ∀ w ∈ u_ws RX7 TX7 4, w ∈ wsX0_planTime := fun _ h => List.mem_cons_of_mem _ (List.mem_append_left _ (List.mem_append_left _ (List.mem_append_left _ (List.mem_append_right _ h))))
  have w_2 : (Cond.methodLink RX0 82 Lib.Math.min.name).before args s = true := hts _ (List.mem_of_getElem? (i := 3) rfl)
  have w_3 : (Cond.static Lib.Math.min.name).before args s = true := hts _ (List.mem_of_getElem? (i := 4) rfl)
  have w_4 : (Cond.initialized "java/lang/Math").before args s = true := hts _ (List.mem_of_getElem? (i := 5) rfl)
  have w_5 : (Cond.code Lib.Math.min.name Lib.Math.min.code 2 (some .int)).before args s = true := hts _ (List.mem_of_getElem? (i := 6) rfl)
  have w_6 : (Cond.fieldLink RX0 15 "QuietCut$Chooser" "leastTime" "[I").before args s = true := hts _ (List.mem_of_getElem? (i := 7) rfl)
  have b1 : (4 : Int) ≤ (G 18 0).toInt ∧ (G 18 0).toInt ≤ 16 := hI 18 0
  have b2 : (1 : Int) ≤ (G 18 9).toInt ∧ (G 18 9).toInt ≤ 12 := hI 18 9
  refine g_aload_n F 0 dX0_planTime_0 rfl rfl ?_
  refine xg_7_0 F i_X0 w_0 dX0_planTime_1 ?_
  refine xg_2_0 F i_X7 w_1 dX0_planTime_4 ?_
  refine g_bipush F 9 dX0_planTime_7 (by decide) ?_
  refine u1_iald F 18 0 xc_18 rfl 9 rfl (by decide) (by decide) dX0_planTime_9 (G 18 9) (rfl) ?_
  refine g_istore_n F [(3, .int (G 18 9)), (0, .ref (a 7)), (1, .int p0), (2, .int p1)] dX0_planTime_10 rfl (by decide) rfl ?_
  refine g_iload_n F 0 dX0_planTime_11 rfl rfl ?_
  refine g_iconst F 1 dX0_planTime_12 (by decide) ?_
  refine v_icmp_lt F 29 dX0_planTime_13 (by decide) (G 18 9).toInt 1 rfl rfl (fun c3 => absurd c3 (by omega)) (fun c3 => ?_)
  refine g_iload_n F 3 dX0_planTime_16 rfl rfl ?_
  refine g_iload_n F 0 dX0_planTime_17 rfl rfl ?_
  refine u_irem F dX0_planTime_18 (ti_ne0 rfl (by omega)) s1 (G 18 9).toInt e1 rfl (by omega) (by omega) (fun y4 ey4 => ?_)
  refine v_if_ne F 29 dX0_planTime_19 (by decide) y4.toInt rfl (fun c5 => ?_) (fun c5 => ?_)
  · refine g_iconst F (-1) dX0_planTime_29 (by decide) ?_
    exact u_iret F hA hQ hr G (⟨hI, gu_un.rf, (fun Q C hk hl hq => by rw [hq.1 9 (by decide) (by decide)]; exact Or.inl ⟨by omega, by decide, rfl, rfl⟩)⟩) rfl rfl dX0_planTime_30
  · refine g_iload_n F 3 dX0_planTime_22 rfl rfl ?_
    refine g_sipush F 400 dX0_planTime_23 (by decide) ?_
    refine v_icmp_le F 31 dX0_planTime_26 (by decide) s1 400 e1 rfl (fun c6 => ?_) (fun c6 => absurd c6 (by omega))
    refine g_iload_n F 3 dX0_planTime_31 rfl rfl ?_
    refine g_iload_n F 0 dX0_planTime_32 rfl rfl ?_
    refine u_idiv F dX0_planTime_33 (ti_ne0 rfl (by omega)) s1 (G 18 9).toInt e1 rfl (by omega) (by omega) (fun y7 ey7 => ?_)
    have dv0 := pl_dv ey7 (show (0 : Int) ≤ s1 by omega) (show (1 : Int) ≤ (G 18 9).toInt by omega)
    refine g_istore F [(4, .int y7), (3, .int (G 18 9)), (0, .ref (a 7)), (1, .int p0), (2, .int p1)] dX0_planTime_34 (by decide) rfl ?_
    refine g_aload_n F 2 dX0_planTime_36 rfl rfl ?_
    refine g_iload_n F 3 dX0_planTime_37 rfl rfl ?_
    refine g_iload F 0 dX0_planTime_38 rfl ?_
    refine g_bipush F 20 dX0_planTime_40 (by decide) ?_
    refine u_mmin F w_2 w_3 w_4 w_5 (Nat.le_of_ble_eq_true rfl) (Nat.le_of_ble_eq_true rfl) (Nat.le_of_ble_eq_true rfl) (Nat.le_of_ble_eq_true rfl) dX0_planTime_42 y7.toInt 20 rfl rfl (fun y8 ey8 => ?_)
    refine u_callVv (k := 0) (n := 0) (b := a 7) (As := [.int p0, .int y8]) (st := []) F (fun sz => S_X0_findSpeeds l D K a G p0 s0 y8 y8.toInt e0 rfl (by omega) hI sz) (cwV 2 hts gX0_planTime_X0_findSpeeds rfl rfl rfl (by decide +kernel) ⟨Nat.le_of_ble_eq_true rfl, Nat.le_of_ble_eq_true rfl⟩) rfl 7 xc_7 rfl (Nat.le_of_ble_eq_true rfl) ⟨Nat.zero_le _, Nat.zero_le _⟩ dX0_planTime_45 (fun G11 hw10 => ?_)
    have hI12 : xI G11 := hw10.1
    have hU13 : gu_un xcd [602, 603, 604, 605, 608, 613, 614, 615, 616, 617, 618, 619, 620, 2100, 2400, 2700, 4400, 4500, 4600, 4700, 4800, 4900] G G11 := hw10.2.1
    have hp14 := hw10.2.2
    have q15 : (∀ (Q : gS) (C : Nat → List Int), xTok G → lSp G → xSq G Q C → clS (bsP Q C (G 38) (G 5 2) s0) (fun f => (G11 49 f).toInt) (y8.toInt).toNat ∧ ∀ f : Nat, y8.toInt < (f : Int) → f ≤ 20 → (G11 49 f).toInt = 0) := hp14
    clear hp14 hw10
    refine g_aload_n F 2 dX0_planTime_48 rfl rfl ?_
    refine g_iload F 0 dX0_planTime_49 rfl ?_
    refine u_callVv (k := 0) (n := 0) (b := a 7) (As := [.int y7]) (st := []) F (fun sz => S_X0_findLeastTimes l D K a G11 y7 y7.toInt rfl (by omega) hI12 sz) (cwV 1 hts gX0_planTime_X0_findLeastTimes rfl rfl rfl (by decide +kernel) ⟨Nat.le_of_ble_eq_true rfl, Nat.le_of_ble_eq_true rfl⟩) rfl 7 xc_7 rfl (Nat.le_of_ble_eq_true rfl) ⟨Nat.zero_le _, Nat.zero_le _⟩ dX0_planTime_51 (fun G18 hw17 => ?_)
    have hI19 : xI G18 := hw17.1
    have hU20 : gu_un xcd [5000, 5100] G11 G18 := hw17.2.1
    have hp21 := hw17.2.2
    have q22 : (∀ (Q : gS) (C : Nat → List Int), xSq G11 Q C → clK (fun f => ((G11 49) f).toInt) (tmT Q) (clT (G18 50) (G18 51)) 20 (y7.toInt).toNat ∧ clB (G18 50) (G18 51) (y7.toInt).toNat) := hp21
    clear hp21 hw17
    refine g_aload_n F 2 dX0_planTime_54 rfl rfl ?_
    refine xg_7_4 F i_X0 w_6 dX0_planTime_55 ?_
    refine g_iload F 0 dX0_planTime_58 rfl ?_
    refine u1_iald F 50 0 xc_50 rfl y7.toInt rfl (by omega) (by omega) dX0_planTime_60 ((G18 50) (y7.toInt).toNat) (rfl) ?_
    refine g_iconst F (-1) dX0_planTime_61 (by decide) ?_
    refine v_icmp_ne F 67 dX0_planTime_62 (by decide) ((G18 50) (y7.toInt).toNat).toInt (-1) rfl rfl (fun c23 => ?_) (fun c23 => ?_)
    · refine g_aload_n F 2 dX0_planTime_67 rfl rfl ?_
      refine g_iload F 0 dX0_planTime_68 rfl ?_
      refine u_callVv (k := 0) (n := 0) (b := a 7) (As := [.int y7]) (st := []) F (fun sz => S_X0_keepLeastRow l D K a G18 y7 y7.toInt rfl (by omega) hI19 sz) (cwV 1 hts gX0_planTime_X0_keepLeastRow rfl rfl rfl (by decide +kernel) ⟨Nat.le_of_ble_eq_true rfl, Nat.le_of_ble_eq_true rfl⟩) rfl 7 xc_7 rfl (Nat.le_of_ble_eq_true rfl) ⟨Nat.zero_le _, Nat.zero_le _⟩ dX0_planTime_70 (fun G26 hw25 => ?_)
      have hI27 : xI G26 := hw25.1
      have hU28 : gu_un xcd [708, 5200] G18 G26 := hw25.2.1
      have hp29 := hw25.2.2
      have q30 : (∀ (Q : gS) (C : Nat → List Int) (P : Int → Int → Prop), xSq G18 Q C → clS P (fun f => ((G11 49) f).toInt) (y7.toInt).toNat → plK P (tmT Q) (clT (G18 50) (G18 51)) (y7.toInt).toNat → clB (G18 50) (G18 51) (y7.toInt).toNat → 1 ≤ y7.toInt → y7.toInt ≤ 400 → clT (G18 50) (G18 51) (y7.toInt).toNat ≠ -1 → plW P (tmT Q) (clT (G18 50) (G18 51)) y7.toInt ((G26 7 7).toInt).toNat (G26 52) ∧ 1 ≤ (G26 7 7).toInt) := by have h9 := hp29; (try simp only [(show G18 49 = (G11 49) from (show G18 49 = G11 49 from funext fun k_ => hU20 49 k_ (show (4900 : Nat) ∉ ([5000, 5100] : List Nat) by decide)))] at h9); first | exact h9 | omega
      clear hp29 hw25
      refine g_aload_n F 2 dX0_planTime_73 rfl rfl ?_
      refine xg_7_4 F i_X0 w_6 dX0_planTime_74 ?_
      refine g_iload F 0 dX0_planTime_77 rfl ?_
      refine u1_iald F 50 0 xc_50 rfl y7.toInt rfl (by omega) (by omega) dX0_planTime_79 ((G18 50) (y7.toInt).toNat) (congrFun ((show G26 50 = G18 50 from funext fun k_ => hU28 50 k_ (show (5000 : Nat) ∉ ([708, 5200] : List Nat) by decide))) _) ?_
      exact u_iret F hA hQ hr G26 (⟨hI27, (gu_un.tr (gu_un.tr (gu_un.tr gu_un.rf (gu_un.su hU13 rfl)) (gu_un.su hU20 rfl)) (gu_un.su hU28 rfl)), (fun Q C hk hl hq => by rw [hq.1 9 (by decide) (by decide)]; obtain ⟨f1, f2⟩ := q15 Q C (xTok.un hk (show gu_un xcd [] G G from gu_un.rf) rfl) (lSp.un hl (show gu_un xcd [] G G from gu_un.rf) rfl) (xSq.un hq (show gu_un xcd [] G G from gu_un.rf) rfl); obtain ⟨l1, l2⟩ := q22 Q C (xSq.un hq (show gu_un xcd [602, 603, 604, 605, 608, 613, 614, 615, 616, 617, 618, 619, 620, 2100, 2400, 2700, 4400, 4500, 4600, 4700, 4800, 4900] G G11 from (gu_un.tr gu_un.rf (gu_un.su hU13 rfl))) rfl); rw [show (y7.toInt).toNat = (s1 / (G 18 9).toInt).toNat by omega] at l1 l2; have hS : clS (bsP Q C (G 38) (G 5 2) s0) (fun f => (G11 49 f).toInt) (s1 / (G 18 9).toInt).toNat := (fun f h1 h2 h3 => f1 f h1 h2 (by omega)); have hK := clK.plK l1 hS (tmT_lt (by have k := (tmN_b (Q := Q) (by rw [hq.1 0 (by decide) (by decide)]; omega) (by rw [hq.1 0 (by decide) (by decide)]; omega) (by rw [hq.1 9 (by decide) (by decide)]; omega) (by rw [hq.1 9 (by decide) (by decide)]; omega)); exact k.1)); have v := clT_v (a := G18 50) (b := G18 51) (u := (s1 / (G 18 9).toInt).toNat); have bb := l2 (s1 / (G 18 9).toInt).toNat (Nat.le_refl _); have ed : (y7.toInt).toNat = (s1 / (G 18 9).toInt).toNat := (by omega); have ee := congrArg (fun k => (G18 50 k).toInt) ed; have ee2 : (G18 50 (y7.toInt).toNat).toInt = (G18 50 (s1 / (G 18 9).toInt).toNat).toInt := ee; have dv1 := pl_ge (show (1 : Int) ≤ s1 by omega) (show (1 : Int) ≤ (G 18 9).toInt by omega) (by omega); obtain ⟨k1, k2⟩ := q30 Q C (bsP Q C (G 38) (G 5 2) s0) (xSq.un hq (show gu_un xcd [602, 603, 604, 605, 608, 613, 614, 615, 616, 617, 618, 619, 620, 2100, 2400, 2700, 4400, 4500, 4600, 4700, 4800, 4900, 5000, 5100] G G18 from (gu_un.tr (gu_un.tr gu_un.rf (gu_un.su hU13 rfl)) (gu_un.su hU20 rfl))) rfl) (by rw [show (y7.toInt).toNat = (s1 / (G 18 9).toInt).toNat by omega]; exact hS) (by rw [show (y7.toInt).toNat = (s1 / (G 18 9).toInt).toNat by omega]; exact hK) (by rw [show (y7.toInt).toNat = (s1 / (G 18 9).toInt).toNat by omega]; exact l2) (by omega) (by omega) (by rw [show (y7.toInt).toNat = (s1 / (G 18 9).toInt).toNat by omega]; omega); exact Or.inr ⟨by omega, _, hK, Or.inr ⟨by omega, by omega, k2, by rw [show (s1 / (G 18 9).toInt) = y7.toInt by omega]; exact k1⟩⟩)⟩) rfl rfl dX0_planTime_80
    · refine g_iconst F (-1) dX0_planTime_65 (by decide) ?_
      exact u_iret F hA hQ hr G18 (⟨hI19, (gu_un.tr (gu_un.tr gu_un.rf (gu_un.su hU13 rfl)) (gu_un.su hU20 rfl)), (fun Q C hk hl hq => by rw [hq.1 9 (by decide) (by decide)]; obtain ⟨f1, f2⟩ := q15 Q C (xTok.un hk (show gu_un xcd [] G G from gu_un.rf) rfl) (lSp.un hl (show gu_un xcd [] G G from gu_un.rf) rfl) (xSq.un hq (show gu_un xcd [] G G from gu_un.rf) rfl); obtain ⟨l1, l2⟩ := q22 Q C (xSq.un hq (show gu_un xcd [602, 603, 604, 605, 608, 613, 614, 615, 616, 617, 618, 619, 620, 2100, 2400, 2700, 4400, 4500, 4600, 4700, 4800, 4900] G G11 from (gu_un.tr gu_un.rf (gu_un.su hU13 rfl))) rfl); rw [show (y7.toInt).toNat = (s1 / (G 18 9).toInt).toNat by omega] at l1 l2; have hS : clS (bsP Q C (G 38) (G 5 2) s0) (fun f => (G11 49 f).toInt) (s1 / (G 18 9).toInt).toNat := (fun f h1 h2 h3 => f1 f h1 h2 (by omega)); have hK := clK.plK l1 hS (tmT_lt (by have k := (tmN_b (Q := Q) (by rw [hq.1 0 (by decide) (by decide)]; omega) (by rw [hq.1 0 (by decide) (by decide)]; omega) (by rw [hq.1 9 (by decide) (by decide)]; omega) (by rw [hq.1 9 (by decide) (by decide)]; omega)); exact k.1)); have v := clT_v (a := G18 50) (b := G18 51) (u := (s1 / (G 18 9).toInt).toNat); have bb := l2 (s1 / (G 18 9).toInt).toNat (Nat.le_refl _); have ed : (y7.toInt).toNat = (s1 / (G 18 9).toInt).toNat := (by omega); have ee := congrArg (fun k => (G18 50 k).toInt) ed; have ee2 : (G18 50 (y7.toInt).toNat).toInt = (G18 50 (s1 / (G 18 9).toInt).toNat).toInt := ee; have dv1 := pl_ge (show (1 : Int) ≤ s1 by omega) (show (1 : Int) ≤ (G 18 9).toInt by omega) (by omega); exact Or.inr ⟨by omega, _, hK, Or.inl ⟨by omega, by decide, (show G18 7 7 = G 7 7 from (show gu_un xcd [602, 603, 604, 605, 608, 613, 614, 615, 616, 617, 618, 619, 620, 2100, 2400, 2700, 4400, 4500, 4600, 4700, 4800, 4900, 5000, 5100] G G18 from (gu_un.tr (gu_un.tr gu_un.rf (gu_un.su hU13 rfl)) (gu_un.su hU20 rfl))) 7 7 (by decide)), (show G18 52 = G 52 from funext fun k_ => (show gu_un xcd [602, 603, 604, 605, 608, 613, 614, 615, 616, 617, 618, 619, 620, 2100, 2400, 2700, 4400, 4500, 4600, 4700, 4800, 4900, 5000, 5100] G G18 from (gu_un.tr (gu_un.tr gu_un.rf (gu_un.su hU13 rfl)) (gu_un.su hU20 rfl))) 52 k_ (by simp [xcd]))⟩⟩)⟩) rfl rfl dX0_planTime_66

theorem dX0_plannedPass_0 : decode cX0_plannedPass 0 = .ok (.aload_n 0, 1) := by decide +kernel
theorem dX0_plannedPass_1 : decode cX0_plannedPass 1 = .ok (.getfield 111, 3) := by decide +kernel
theorem dX0_plannedPass_4 : decode cX0_plannedPass 4 = .ok (.ifCond .ne 5, 3) := by decide +kernel
theorem dX0_plannedPass_7 : decode cX0_plannedPass 7 = .ok (.iconst (-1), 1) := by decide +kernel
theorem dX0_plannedPass_8 : decode cX0_plannedPass 8 = .ok (.ireturn, 1) := by decide +kernel
theorem dX0_plannedPass_9 : decode cX0_plannedPass 9 = .ok (.iload_n 1, 1) := by decide +kernel
theorem dX0_plannedPass_10 : decode cX0_plannedPass 10 = .ok (.ifCond .ne 8, 3) := by decide +kernel
theorem dX0_plannedPass_13 : decode cX0_plannedPass 13 = .ok (.aload_n 0, 1) := by decide +kernel
theorem dX0_plannedPass_14 : decode cX0_plannedPass 14 = .ok (.getfield 111, 3) := by decide +kernel
theorem dX0_plannedPass_17 : decode cX0_plannedPass 17 = .ok (.ireturn, 1) := by decide +kernel
theorem dX0_plannedPass_18 : decode cX0_plannedPass 18 = .ok (.iload_n 1, 1) := by decide +kernel
theorem dX0_plannedPass_19 : decode cX0_plannedPass 19 = .ok (.bipush 10, 2) := by decide +kernel
theorem dX0_plannedPass_21 : decode cX0_plannedPass 21 = .ok (.isub, 1) := by decide +kernel
theorem dX0_plannedPass_22 : decode cX0_plannedPass 22 = .ok (.istore_n 2, 1) := by decide +kernel
theorem dX0_plannedPass_23 : decode cX0_plannedPass 23 = .ok (.iload_n 1, 1) := by decide +kernel
theorem dX0_plannedPass_24 : decode cX0_plannedPass 24 = .ok (.bipush 10, 2) := by decide +kernel
theorem dX0_plannedPass_26 : decode cX0_plannedPass 26 = .ok (.if_icmp .lt 27, 3) := by decide +kernel
theorem dX0_plannedPass_29 : decode cX0_plannedPass 29 = .ok (.iload_n 2, 1) := by decide +kernel
theorem dX0_plannedPass_30 : decode cX0_plannedPass 30 = .ok (.aload_n 0, 1) := by decide +kernel
theorem dX0_plannedPass_31 : decode cX0_plannedPass 31 = .ok (.getfield 111, 3) := by decide +kernel
theorem dX0_plannedPass_34 : decode cX0_plannedPass 34 = .ok (.if_icmp .ge 19, 3) := by decide +kernel
theorem dX0_plannedPass_37 : decode cX0_plannedPass 37 = .ok (.iload_n 2, 1) := by decide +kernel
theorem dX0_plannedPass_38 : decode cX0_plannedPass 38 = .ok (.sipush 400, 3) := by decide +kernel
theorem dX0_plannedPass_41 : decode cX0_plannedPass 41 = .ok (.if_icmp .ge 12, 3) := by decide +kernel
theorem dX0_plannedPass_44 : decode cX0_plannedPass 44 = .ok (.aload_n 0, 1) := by decide +kernel
theorem dX0_plannedPass_45 : decode cX0_plannedPass 45 = .ok (.getfield 21, 3) := by decide +kernel
theorem dX0_plannedPass_48 : decode cX0_plannedPass 48 = .ok (.iload_n 2, 1) := by decide +kernel
theorem dX0_plannedPass_49 : decode cX0_plannedPass 49 = .ok (.iaload, 1) := by decide +kernel
theorem dX0_plannedPass_50 : decode cX0_plannedPass 50 = .ok (.goto 4, 3) := by decide +kernel
theorem dX0_plannedPass_53 : decode cX0_plannedPass 53 = .ok (.iconst (-1), 1) := by decide +kernel
theorem dX0_plannedPass_54 : decode cX0_plannedPass 54 = .ok (.ireturn, 1) := by decide +kernel
set_option maxHeartbeats 4000000 in
set_option maxRecDepth 100000 in
theorem S_X0_plannedPass (l : Launch) (D : va_G) (K : Nat → ClassId) (a : Nat → Nat) (G : gS) (p0 : Int32) (s0 : Int) (e0 : p0.toInt = s0) (hI : xI G) (sz : Nat) : Ki l yX0_plannedPass wsX0_plannedPass 1 40 0 0 D [.ref (a 7), .int p0] (xW K a G) (tK K) sz (fun (r : Int32) (_ : Unit) => ((((G 7 7).toInt = 0 ∧ r.toInt = -1) ∨ ((G 7 7).toInt ≠ 0 ∧ ((s0 = 0 ∧ r.toInt = (G 7 7).toInt) ∨ (s0 ≠ 0 ∧ ((10 ≤ s0 ∧ s0 < (G 7 7).toInt + 10 ∧ r.toInt = ((G 52) (s0 - 10).toNat).toInt) ∨ (¬ (10 ≤ s0 ∧ s0 < (G 7 7).toInt + 10) ∧ r.toInt = -1)))))))) (fun (_ : Unit) => (xW K a G)) (fun _ => (tK K)) := by
  unfold Ki
  refine g_ofW (cc := cX0_plannedPass) (lv := [(0, .ref (a 7)), (1, .int p0)]) (by decide) rfl (Nat.le_of_ble_eq_true rfl) rfl ?_
  intro p e s m args below meth c A Q hA hQ F hr hnm
  have hts := F.2.2.2.2.1
  have w_0 : (Cond.fieldLink RX0 111 "QuietCut$Chooser" "planMany" "I").before args s = true := hts _ (List.mem_of_getElem? (i := 1) rfl)
  have i_X0 : ∀ w ∈ u_ws RX0 TX0 8, w ∈ wsX0_plannedPass := fun _ h => List.mem_cons_of_mem _ (List.mem_append_right _ h)
  have w_1 : (Cond.fieldLink RX0 21 "QuietCut$Chooser" "planRow" "[I").before args s = true := hts _ (List.mem_of_getElem? (i := 2) rfl)
  have rg0 : -2147483648 ≤ s0 ∧ s0 ≤ 2147483647 := e0 ▸ ti_rng p0
  have b1 : (0 : Int) ≤ (G 7 7).toInt ∧ (G 7 7).toInt ≤ 400 := hI 7 7
  refine g_aload_n F 0 dX0_plannedPass_0 rfl rfl ?_
  refine xg_7_7 F i_X0 w_0 dX0_plannedPass_1 (G 7 7) (rfl) ?_
  refine v_if_ne F 9 dX0_plannedPass_4 (by decide) (G 7 7).toInt rfl (fun c2 => ?_) (fun c2 => ?_)
  · refine g_iload_n F 1 dX0_plannedPass_9 rfl rfl ?_
    refine v_if_ne F 18 dX0_plannedPass_10 (by decide) s0 e0 (fun c3 => ?_) (fun c3 => ?_)
    · refine g_iload_n F 1 dX0_plannedPass_18 rfl rfl ?_
      refine g_bipush F 10 dX0_plannedPass_19 (by decide) ?_
      refine u_isubc F dX0_plannedPass_21 s0 10 e0 rfl (fun y4 ey4 => ?_)
      refine g_istore_n F [(2, .int y4), (0, .ref (a 7)), (1, .int p0)] dX0_plannedPass_22 rfl (by decide) rfl ?_
      refine g_iload_n F 2 dX0_plannedPass_23 rfl rfl ?_
      refine g_bipush F 10 dX0_plannedPass_24 (by decide) ?_
      refine v_icmp_lt F 53 dX0_plannedPass_26 (by decide) s0 10 e0 rfl (fun c5 => ?_) (fun c5 => ?_)
      · refine g_iconst F (-1) dX0_plannedPass_53 (by decide) ?_
        exact u_iret F hA hQ hr () ((by show (((G 7 7).toInt = 0 ∧ (-1) = -1) ∨ ((G 7 7).toInt ≠ 0 ∧ ((s0 = 0 ∧ (-1) = (G 7 7).toInt) ∨ (s0 ≠ 0 ∧ ((10 ≤ s0 ∧ s0 < (G 7 7).toInt + 10 ∧ (-1) = ((G 52) (s0 - 10).toNat).toInt) ∨ (¬ (10 ≤ s0 ∧ s0 < (G 7 7).toInt + 10) ∧ (-1) = -1)))))); (first | omega | (simp only [Int32.reduceToInt, true_and, and_true, ne_eq, not_true_eq_false, false_and, or_false, false_or, true_or, or_true, false_implies] <;> omega)))) rfl rfl dX0_plannedPass_54
      · refine g_iload_n F 0 dX0_plannedPass_29 rfl rfl ?_
        refine g_aload_n F 1 dX0_plannedPass_30 rfl rfl ?_
        refine xg_7_7 F i_X0 w_0 dX0_plannedPass_31 (G 7 7) (rfl) ?_
        have b6 := ti_rng y4
        refine v_icmp_ge F 53 dX0_plannedPass_34 (by decide) y4.toInt (G 7 7).toInt rfl rfl (fun c7 => ?_) (fun c7 => ?_)
        · refine g_iconst F (-1) dX0_plannedPass_53 (by decide) ?_
          exact u_iret F hA hQ hr () ((by show (((G 7 7).toInt = 0 ∧ (-1) = -1) ∨ ((G 7 7).toInt ≠ 0 ∧ ((s0 = 0 ∧ (-1) = (G 7 7).toInt) ∨ (s0 ≠ 0 ∧ ((10 ≤ s0 ∧ s0 < (G 7 7).toInt + 10 ∧ (-1) = ((G 52) (s0 - 10).toNat).toInt) ∨ (¬ (10 ≤ s0 ∧ s0 < (G 7 7).toInt + 10) ∧ (-1) = -1)))))); (first | omega | (simp only [Int32.reduceToInt, true_and, and_true, ne_eq, not_true_eq_false, false_and, or_false, false_or, true_or, or_true, false_implies] <;> omega)))) rfl rfl dX0_plannedPass_54
        · refine g_iload_n F 0 dX0_plannedPass_37 rfl rfl ?_
          refine g_sipush F 400 dX0_plannedPass_38 (by decide) ?_
          refine v_icmp_ge F 53 dX0_plannedPass_41 (by decide) y4.toInt 400 rfl rfl (fun c8 => absurd c8 (by omega)) (fun c8 => ?_)
          refine g_aload_n F 1 dX0_plannedPass_44 rfl rfl ?_
          refine xg_7_6 F i_X0 w_1 dX0_plannedPass_45 ?_
          refine g_iload_n F 0 dX0_plannedPass_48 rfl rfl ?_
          refine u1_iald F 52 0 xc_52 rfl y4.toInt rfl (by omega) (by omega) dX0_plannedPass_49 ((G 52) ((s0 - 10)).toNat) (by rw [show y4.toInt = (s0 - 10) by omega] <;> rfl) ?_
          refine g_goto F 54 dX0_plannedPass_50 (by decide) ?_
          exact u_iret F hA hQ hr () ((by show (((G 7 7).toInt = 0 ∧ ((G 52) ((s0 - 10)).toNat).toInt = -1) ∨ ((G 7 7).toInt ≠ 0 ∧ ((s0 = 0 ∧ ((G 52) ((s0 - 10)).toNat).toInt = (G 7 7).toInt) ∨ (s0 ≠ 0 ∧ ((10 ≤ s0 ∧ s0 < (G 7 7).toInt + 10 ∧ ((G 52) ((s0 - 10)).toNat).toInt = ((G 52) (s0 - 10).toNat).toInt) ∨ (¬ (10 ≤ s0 ∧ s0 < (G 7 7).toInt + 10) ∧ ((G 52) ((s0 - 10)).toNat).toInt = -1)))))); (first | omega | (simp only [Int32.reduceToInt, true_and, and_true, ne_eq, not_true_eq_false, false_and, or_false, false_or, true_or, or_true, false_implies] <;> omega)))) rfl rfl dX0_plannedPass_54
    · refine g_aload_n F 0 dX0_plannedPass_13 rfl rfl ?_
      refine xg_7_7 F i_X0 w_0 dX0_plannedPass_14 (G 7 7) (rfl) ?_
      exact u_iret F hA hQ hr () ((by show (((G 7 7).toInt = 0 ∧ (G 7 7).toInt = -1) ∨ ((G 7 7).toInt ≠ 0 ∧ ((s0 = 0 ∧ (G 7 7).toInt = (G 7 7).toInt) ∨ (s0 ≠ 0 ∧ ((10 ≤ s0 ∧ s0 < (G 7 7).toInt + 10 ∧ (G 7 7).toInt = ((G 52) (s0 - 10).toNat).toInt) ∨ (¬ (10 ≤ s0 ∧ s0 < (G 7 7).toInt + 10) ∧ (G 7 7).toInt = -1)))))); (first | omega | (simp only [Int32.reduceToInt, true_and, and_true, ne_eq, not_true_eq_false, false_and, or_false, false_or, true_or, or_true, false_implies] <;> omega)))) rfl rfl dX0_plannedPass_17
  · refine g_iconst F (-1) dX0_plannedPass_7 (by decide) ?_
    exact u_iret F hA hQ hr () ((by show (((G 7 7).toInt = 0 ∧ (-1) = -1) ∨ ((G 7 7).toInt ≠ 0 ∧ ((s0 = 0 ∧ (-1) = (G 7 7).toInt) ∨ (s0 ≠ 0 ∧ ((10 ≤ s0 ∧ s0 < (G 7 7).toInt + 10 ∧ (-1) = ((G 52) (s0 - 10).toNat).toInt) ∨ (¬ (10 ≤ s0 ∧ s0 < (G 7 7).toInt + 10) ∧ (-1) = -1)))))); (first | omega | (simp only [Int32.reduceToInt, true_and, and_true, ne_eq, not_true_eq_false, false_and, or_false, false_or, true_or, or_true, false_implies] <;> omega)))) rfl rfl dX0_plannedPass_8
