theorem dJ0_coder_7d493_0 : decode cJ0_coder_7d493 0 = .ok (.getstatic 38, 3) := by decide +kernel
theorem dJ0_coder_7d493_3 : decode cJ0_coder_7d493 3 = .ok (.ifCond .eq 10, 3) := by decide +kernel
theorem dJ0_coder_7d493_6 : decode cJ0_coder_7d493 6 = .ok (.aload_n 0, 1) := by decide +kernel
theorem dJ0_coder_7d493_7 : decode cJ0_coder_7d493 7 = .ok (.getfield 15, 3) := by decide +kernel
theorem dJ0_coder_7d493_10 : decode cJ0_coder_7d493 10 = .ok (.goto 4, 3) := by decide +kernel
theorem dJ0_coder_7d493_13 : decode cJ0_coder_7d493 13 = .ok (.iconst 1, 1) := by decide +kernel
theorem dJ0_coder_7d493_14 : decode cJ0_coder_7d493 14 = .ok (.ireturn, 1) := by decide +kernel
set_option maxHeartbeats 4000000 in
set_option maxRecDepth 100000 in
theorem S_J0_coder_7d493 (l : Launch) (D : va_G) (q v n : Nat) (bs : Nat → Int32) (hn : n ≤ 1000) (sz : Nat) : KiZ (zS q v n bs) l yJ0_coder_7d493 wsJ0_coder_7d493 1 40 D [.ref q] [] [] sz (fun (r : Int32) (_ : Unit) => r.toInt = 0) (fun (_ : Unit) => []) := by
  unfold KiZ
  refine gz_ofW (cc := cJ0_coder_7d493) (lv := [(0, .ref q)]) (by decide +kernel) rfl (Nat.le_of_ble_eq_true rfl) rfl ?_
  intro p e s m args below meth c A Q hA hQ hZ F hr hnm
  have hts := F.2.2.2.2.1
  have w_0 : (Cond.fieldLink RJ0 38 "java/lang/String" "COMPACT_STRINGS" "Z").before args s = true := hts _ (List.mem_of_getElem? (i := 1) rfl)
  have w_1 : (Cond.fieldLink RJ0 15 "java/lang/String" "coder" "B").before args s = true := hts _ (List.mem_of_getElem? (i := 2) rfl)
  refine uz_gets F hZ.2.2.2.2.1 w_0 dJ0_coder_7d493_0 ?_
  refine v_if_eq F 13 dJ0_coder_7d493_3 (by decide) 1 rfl (fun c1 => absurd c1 (by decide)) (fun c1 => ?_)
  refine g_aload_n F 0 dJ0_coder_7d493_6 rfl rfl ?_
  refine uz_getf F hZ.2.1 w_1 dJ0_coder_7d493_7 ?_
  refine g_goto F 14 dJ0_coder_7d493_10 (by decide) ?_
  exact u_zret F hA hQ hr rfl () (by decide) rfl rfl dJ0_coder_7d493_14

theorem dJ0_isLatin1_aae02_0 : decode cJ0_isLatin1_aae02 0 = .ok (.getstatic 38, 3) := by decide +kernel
theorem dJ0_isLatin1_aae02_3 : decode cJ0_isLatin1_aae02 3 = .ok (.ifCond .eq 14, 3) := by decide +kernel
theorem dJ0_isLatin1_aae02_6 : decode cJ0_isLatin1_aae02 6 = .ok (.aload_n 0, 1) := by decide +kernel
theorem dJ0_isLatin1_aae02_7 : decode cJ0_isLatin1_aae02 7 = .ok (.getfield 15, 3) := by decide +kernel
theorem dJ0_isLatin1_aae02_10 : decode cJ0_isLatin1_aae02 10 = .ok (.ifCond .ne 7, 3) := by decide +kernel
theorem dJ0_isLatin1_aae02_13 : decode cJ0_isLatin1_aae02 13 = .ok (.iconst 1, 1) := by decide +kernel
theorem dJ0_isLatin1_aae02_14 : decode cJ0_isLatin1_aae02 14 = .ok (.goto 4, 3) := by decide +kernel
theorem dJ0_isLatin1_aae02_17 : decode cJ0_isLatin1_aae02 17 = .ok (.iconst 0, 1) := by decide +kernel
theorem dJ0_isLatin1_aae02_18 : decode cJ0_isLatin1_aae02 18 = .ok (.ireturn, 1) := by decide +kernel
set_option maxHeartbeats 4000000 in
set_option maxRecDepth 100000 in
theorem S_J0_isLatin1_aae02 (l : Launch) (D : va_G) (q v n : Nat) (bs : Nat → Int32) (hn : n ≤ 1000) (sz : Nat) : KiZ (zS q v n bs) l yJ0_isLatin1_aae02 wsJ0_isLatin1_aae02 1 40 D [.ref q] [] [] sz (fun (r : Int32) (_ : Unit) => r.toInt = 1) (fun (_ : Unit) => []) := by
  unfold KiZ
  refine gz_ofW (cc := cJ0_isLatin1_aae02) (lv := [(0, .ref q)]) (by decide +kernel) rfl (Nat.le_of_ble_eq_true rfl) rfl ?_
  intro p e s m args below meth c A Q hA hQ hZ F hr hnm
  have hts := F.2.2.2.2.1
  have w_0 : (Cond.fieldLink RJ0 38 "java/lang/String" "COMPACT_STRINGS" "Z").before args s = true := hts _ (List.mem_of_getElem? (i := 1) rfl)
  have w_1 : (Cond.fieldLink RJ0 15 "java/lang/String" "coder" "B").before args s = true := hts _ (List.mem_of_getElem? (i := 2) rfl)
  refine uz_gets F hZ.2.2.2.2.1 w_0 dJ0_isLatin1_aae02_0 ?_
  refine v_if_eq F 17 dJ0_isLatin1_aae02_3 (by decide) 1 rfl (fun c1 => absurd c1 (by decide)) (fun c1 => ?_)
  refine g_aload_n F 0 dJ0_isLatin1_aae02_6 rfl rfl ?_
  refine uz_getf F hZ.2.1 w_1 dJ0_isLatin1_aae02_7 ?_
  refine v_if_ne F 17 dJ0_isLatin1_aae02_10 (by decide) 0 rfl (fun c2 => absurd c2 (by decide)) (fun c2 => ?_)
  refine g_iconst F 1 dJ0_isLatin1_aae02_13 (by decide) ?_
  refine g_goto F 18 dJ0_isLatin1_aae02_14 (by decide) ?_
  exact u_zret F hA hQ hr rfl () (by decide) rfl rfl dJ0_isLatin1_aae02_18

theorem dJ0_isEmpty_aae02_0 : decode cJ0_isEmpty_aae02 0 = .ok (.aload_n 0, 1) := by decide +kernel
theorem dJ0_isEmpty_aae02_1 : decode cJ0_isEmpty_aae02 1 = .ok (.getfield 9, 3) := by decide +kernel
theorem dJ0_isEmpty_aae02_4 : decode cJ0_isEmpty_aae02 4 = .ok (.arraylength, 1) := by decide +kernel
theorem dJ0_isEmpty_aae02_5 : decode cJ0_isEmpty_aae02 5 = .ok (.ifCond .ne 7, 3) := by decide +kernel
theorem dJ0_isEmpty_aae02_8 : decode cJ0_isEmpty_aae02 8 = .ok (.iconst 1, 1) := by decide +kernel
theorem dJ0_isEmpty_aae02_9 : decode cJ0_isEmpty_aae02 9 = .ok (.goto 4, 3) := by decide +kernel
theorem dJ0_isEmpty_aae02_12 : decode cJ0_isEmpty_aae02 12 = .ok (.iconst 0, 1) := by decide +kernel
theorem dJ0_isEmpty_aae02_13 : decode cJ0_isEmpty_aae02 13 = .ok (.ireturn, 1) := by decide +kernel
set_option maxHeartbeats 4000000 in
set_option maxRecDepth 100000 in
theorem S_J0_isEmpty_aae02 (l : Launch) (D : va_G) (q v n : Nat) (bs : Nat → Int32) (hn : n ≤ 1000) (sz : Nat) : KiZ (zS q v n bs) l yJ0_isEmpty_aae02 wsJ0_isEmpty_aae02 1 40 D [.ref q] [] [] sz (fun (r : Int32) (_ : Unit) => 0 ≤ r.toInt ∧ r.toInt ≤ 1) (fun (_ : Unit) => []) := by
  unfold KiZ
  refine gz_ofW (cc := cJ0_isEmpty_aae02) (lv := [(0, .ref q)]) (by decide +kernel) rfl (Nat.le_of_ble_eq_true rfl) rfl ?_
  intro p e s m args below meth c A Q hA hQ hZ F hr hnm
  have hts := F.2.2.2.2.1
  have w_0 : (Cond.fieldLink RJ0 9 "java/lang/String" "value" "[B").before args s = true := hts _ (List.mem_of_getElem? (i := 1) rfl)
  refine g_aload_n F 0 dJ0_isEmpty_aae02_0 rfl rfl ?_
  refine uz_getf F hZ.2.2.1 w_0 dJ0_isEmpty_aae02_1 ?_
  refine uz_tlen F hZ.2.2.2.1 (Int32.ofNat n) rfl dJ0_isEmpty_aae02_4 ?_
  refine v_if_ne F 12 dJ0_isEmpty_aae02_5 (by decide) (n : Int) (ti_nat hn) (fun c1 => ?_) (fun c1 => ?_)
  · refine g_iconst F 0 dJ0_isEmpty_aae02_12 (by decide) ?_
    exact u_zret F hA hQ hr rfl () (by decide) rfl rfl dJ0_isEmpty_aae02_13
  · refine g_iconst F 1 dJ0_isEmpty_aae02_8 (by decide) ?_
    refine g_goto F 13 dJ0_isEmpty_aae02_9 (by decide) ?_
    exact u_zret F hA hQ hr rfl () (by decide) rfl rfl dJ0_isEmpty_aae02_13

theorem dJ0_length_8abf5_0 : decode cJ0_length_8abf5 0 = .ok (.aload_n 0, 1) := by decide +kernel
theorem dJ0_length_8abf5_1 : decode cJ0_length_8abf5 1 = .ok (.getfield 9, 3) := by decide +kernel
theorem dJ0_length_8abf5_4 : decode cJ0_length_8abf5 4 = .ok (.arraylength, 1) := by decide +kernel
theorem dJ0_length_8abf5_5 : decode cJ0_length_8abf5 5 = .ok (.aload_n 0, 1) := by decide +kernel
theorem dJ0_length_8abf5_6 : decode cJ0_length_8abf5 6 = .ok (.invokevirtual 335, 3) := by decide +kernel
theorem dJ0_length_8abf5_9 : decode cJ0_length_8abf5 9 = .ok (.ishr, 1) := by decide +kernel
theorem dJ0_length_8abf5_10 : decode cJ0_length_8abf5 10 = .ok (.ireturn, 1) := by decide +kernel
set_option maxRecDepth 20000 in
theorem ggJ0_length_8abf5_J0_coder_7d493 : GoodIn wsJ0_length_8abf5 wsJ0_coder_7d493 := goodIn_r _ [6, 7, 8] rfl (by decide +kernel)
set_option maxRecDepth 20000 in
theorem gJ0_length_8abf5_J0_coder_7d493 : GoodIn wsJ0_length_8abf5 (wsV RJ0 335 RJ0 yJ0_coder_7d493 wsJ0_coder_7d493) := goodIn_app (goodIn_of _ (by decide +kernel)) ggJ0_length_8abf5_J0_coder_7d493
set_option maxHeartbeats 4000000 in
set_option maxRecDepth 100000 in
theorem S_J0_length_8abf5 (l : Launch) (D : va_G) (q v n : Nat) (bs : Nat → Int32) (hn : n ≤ 1000) (sz : Nat) : KiZ (zS q v n bs) l yJ0_length_8abf5 wsJ0_length_8abf5 2 60 D [.ref q] [] [] sz (fun (r : Int32) (_ : Unit) => r.toInt = n) (fun (_ : Unit) => []) := by
  unfold KiZ
  refine gz_ofW (cc := cJ0_length_8abf5) (lv := [(0, .ref q)]) (by decide +kernel) rfl (Nat.le_of_ble_eq_true rfl) rfl ?_
  intro p e s m args below meth c A Q hA hQ hZ F hr hnm
  have hts := F.2.2.2.2.1
  have w_0 : (Cond.fieldLink RJ0 9 "java/lang/String" "value" "[B").before args s = true := hts _ (List.mem_of_getElem? (i := 1) rfl)
  refine g_aload_n F 0 dJ0_length_8abf5_0 rfl rfl ?_
  refine uz_getf F hZ.2.2.1 w_0 dJ0_length_8abf5_1 ?_
  refine uz_tlen F hZ.2.2.2.1 (Int32.ofNat n) rfl dJ0_length_8abf5_4 ?_
  refine g_aload_n F 0 dJ0_length_8abf5_5 rfl rfl ?_
  refine uz_call0Vi (k := 0) (n := 0) (b := q) (As := []) (st := [.int (Int32.ofNat n)]) F zS_st hZ (fun sz => S_J0_coder_7d493 l D q v n bs hn   sz) (cwV 0 hts gJ0_length_8abf5_J0_coder_7d493 rfl rfl rfl (by decide +kernel) ⟨Nat.le_of_ble_eq_true rfl, Nat.le_of_ble_eq_true rfl⟩) hZ.1 rfl (Nat.le_of_ble_eq_true rfl) ⟨Nat.zero_le _, Nat.zero_le _⟩ dJ0_length_8abf5_6 (fun r1 _ hw2 => ?_)
  have hw2 : r1.toInt = 0 := hw2
  refine g_fold 0 ((ti_eq rfl (show (0 : Int32).toInt = 0 from rfl)).mpr hw2) ?_
  refine g_ishr F dJ0_length_8abf5_9 ?_
  refine g_fold (Int32.ofNat n) (ti_shr0 _) ?_
  exact u_iret F hA hQ hr () (by have h9 := ti_rng (Int32.ofNat n); have h8 := ti_nat hn; omega) rfl rfl dJ0_length_8abf5_10

theorem dJ3_checkIndex_8e157_0 : decode cJ3_checkIndex_8e157 0 = .ok (.iload_n 0, 1) := by decide +kernel
theorem dJ3_checkIndex_8e157_1 : decode cJ3_checkIndex_8e157 1 = .ok (.ifCond .lt 8, 3) := by decide +kernel
theorem dJ3_checkIndex_8e157_4 : decode cJ3_checkIndex_8e157 4 = .ok (.iload_n 0, 1) := by decide +kernel
theorem dJ3_checkIndex_8e157_5 : decode cJ3_checkIndex_8e157 5 = .ok (.iload_n 1, 1) := by decide +kernel
theorem dJ3_checkIndex_8e157_6 : decode cJ3_checkIndex_8e157 6 = .ok (.if_icmp .lt 10, 3) := by decide +kernel
theorem dJ3_checkIndex_8e157_9 : decode cJ3_checkIndex_8e157 9 = .ok (.aload_n 2, 1) := by decide +kernel
theorem dJ3_checkIndex_8e157_10 : decode cJ3_checkIndex_8e157 10 = .ok (.iload_n 0, 1) := by decide +kernel
theorem dJ3_checkIndex_8e157_11 : decode cJ3_checkIndex_8e157 11 = .ok (.iload_n 1, 1) := by decide +kernel
theorem dJ3_checkIndex_8e157_12 : decode cJ3_checkIndex_8e157 12 = .ok (.invokestatic 95, 3) := by decide +kernel
theorem dJ3_checkIndex_8e157_15 : decode cJ3_checkIndex_8e157 15 = .ok (.athrow, 1) := by decide +kernel
theorem dJ3_checkIndex_8e157_16 : decode cJ3_checkIndex_8e157 16 = .ok (.iload_n 0, 1) := by decide +kernel
theorem dJ3_checkIndex_8e157_17 : decode cJ3_checkIndex_8e157 17 = .ok (.ireturn, 1) := by decide +kernel
set_option maxHeartbeats 4000000 in
set_option maxRecDepth 100000 in
theorem S_J3_checkIndex_8e157_n (l : Launch) (D : va_G) (q v n : Nat) (bs : Nat → Int32) (hn : n ≤ 1000) (p0 : Int32) (s0 : Int) (p1 : Int32) (s1 : Int) (e0 : p0.toInt = s0) (h0 : 0 ≤ s0 ∧ s0 ≤ 1000) (e1 : p1.toInt = s1) (h1 : 0 ≤ s1 ∧ s1 ≤ 1000) (pi : 0 ≤ s0 ∧ s0 < s1) (sz : Nat) : KiZ (zS q v n bs) l yJ3_checkIndex_8e157 wsJ3_checkIndex_8e157 1 40 D [.int p0, .int p1, .null] [] [] sz (fun (r : Int32) (_ : Unit) => 0 ≤ r.toInt ∧ r.toInt ≤ 999) (fun (_ : Unit) => []) := by
  unfold KiZ
  refine gz_ofW (cc := cJ3_checkIndex_8e157) (lv := [(0, .int p0), (1, .int p1), (2, .null)]) (by decide +kernel) rfl (Nat.le_of_ble_eq_true rfl) rfl ?_
  intro p e s m args below meth c A Q hA hQ hZ F hr hnm
  have hts := F.2.2.2.2.1
  refine g_iload_n F 0 dJ3_checkIndex_8e157_0 rfl rfl ?_
  refine v_if_lt F 9 dJ3_checkIndex_8e157_1 (by decide) s0 e0 (fun c1 => absurd c1 (by omega)) (fun c1 => ?_)
  refine g_iload_n F 0 dJ3_checkIndex_8e157_4 rfl rfl ?_
  refine g_iload_n F 1 dJ3_checkIndex_8e157_5 rfl rfl ?_
  refine v_icmp_lt F 16 dJ3_checkIndex_8e157_6 (by decide) s0 s1 e0 e1 (fun c2 => ?_) (fun c2 => absurd c2 (by omega))
  refine g_iload_n F 0 dJ3_checkIndex_8e157_16 rfl rfl ?_
  exact u_iret F hA hQ hr () (by have h9 := ti_rng p0; have h8 := ti_nat hn; omega) rfl rfl dJ3_checkIndex_8e157_17


set_option maxHeartbeats 4000000 in
set_option maxRecDepth 100000 in
theorem S_J3_checkIndex_8e157_r (l : Launch) (D : va_G) (q v n : Nat) (bs : Nat → Int32) (hn : n ≤ 1000) (p0 : Int32) (s0 : Int) (p1 : Int32) (s1 : Int) (t9 : Nat) (e0 : p0.toInt = s0) (h0 : 0 ≤ s0 ∧ s0 ≤ 1000) (e1 : p1.toInt = s1) (h1 : 0 ≤ s1 ∧ s1 ≤ 1000) (pi : 0 ≤ s0 ∧ s0 < s1) (sz : Nat) : KiZ (zS q v n bs) l yJ3_checkIndex_8e157 wsJ3_checkIndex_8e157 1 40 D [.int p0, .int p1, .ref t9] [] [] sz (fun (r : Int32) (_ : Unit) => 0 ≤ r.toInt ∧ r.toInt ≤ 999) (fun (_ : Unit) => []) := by
  unfold KiZ
  refine gz_ofW (cc := cJ3_checkIndex_8e157) (lv := [(0, .int p0), (1, .int p1), (2, .ref t9)]) (by decide +kernel) rfl (Nat.le_of_ble_eq_true rfl) rfl ?_
  intro p e s m args below meth c A Q hA hQ hZ F hr hnm
  have hts := F.2.2.2.2.1
  refine g_iload_n F 0 dJ3_checkIndex_8e157_0 rfl rfl ?_
  refine v_if_lt F 9 dJ3_checkIndex_8e157_1 (by decide) s0 e0 (fun c1 => absurd c1 (by omega)) (fun c1 => ?_)
  refine g_iload_n F 0 dJ3_checkIndex_8e157_4 rfl rfl ?_
  refine g_iload_n F 1 dJ3_checkIndex_8e157_5 rfl rfl ?_
  refine v_icmp_lt F 16 dJ3_checkIndex_8e157_6 (by decide) s0 s1 e0 e1 (fun c2 => ?_) (fun c2 => absurd c2 (by omega))
  refine g_iload_n F 0 dJ3_checkIndex_8e157_16 rfl rfl ?_
  exact u_iret F hA hQ hr () (by have h9 := ti_rng p0; have h8 := ti_nat hn; omega) rfl rfl dJ3_checkIndex_8e157_17

theorem dJ0_checkIndex_df160_0 : decode cJ0_checkIndex_df160 0 = .ok (.iload_n 0, 1) := by decide +kernel
theorem dJ0_checkIndex_df160_1 : decode cJ0_checkIndex_df160 1 = .ok (.iload_n 1, 1) := by decide +kernel
theorem dJ0_checkIndex_df160_2 : decode cJ0_checkIndex_df160 2 = .ok (.getstatic 1053, 3) := by decide +kernel
theorem dJ0_checkIndex_df160_5 : decode cJ0_checkIndex_df160 5 = .ok (.invokestatic 1059, 3) := by decide +kernel
theorem dJ0_checkIndex_df160_8 : decode cJ0_checkIndex_df160 8 = .ok (.pop, 1) := by decide +kernel
theorem dJ0_checkIndex_df160_9 : decode cJ0_checkIndex_df160 9 = .ok (.return_, 1) := by decide +kernel
set_option maxRecDepth 20000 in
theorem ggJ0_checkIndex_df160_J3_checkIndex_8e157 : GoodIn wsJ0_checkIndex_df160 wsJ3_checkIndex_8e157 := goodIn_r _ [5] rfl (by decide +kernel)
set_option maxRecDepth 20000 in
theorem gJ0_checkIndex_df160_J3_checkIndex_8e157 : GoodIn wsJ0_checkIndex_df160 (va_wsS RJ0 1059 yJ3_checkIndex_8e157 wsJ3_checkIndex_8e157) := goodIn_app (goodIn_of _ (by decide +kernel)) ggJ0_checkIndex_df160_J3_checkIndex_8e157
set_option maxHeartbeats 4000000 in
set_option maxRecDepth 100000 in
theorem S_J0_checkIndex_df160 (l : Launch) (D : va_G) (q v n : Nat) (bs : Nat → Int32) (hn : n ≤ 1000) (p0 : Int32) (s0 : Int) (p1 : Int32) (s1 : Int) (e0 : p0.toInt = s0) (h0 : 0 ≤ s0 ∧ s0 ≤ 1000) (e1 : p1.toInt = s1) (h1 : 0 ≤ s1 ∧ s1 ≤ 1000) (pi : 0 ≤ s0 ∧ s0 < s1) (sz : Nat) : KvZ (zS q v n bs) l yJ0_checkIndex_df160 wsJ0_checkIndex_df160 2 62 D [.int p0, .int p1] [] [] sz (fun (_ : Unit) => True) (fun (_ : Unit) => []) := by
  unfold KvZ
  refine gz_ofW (cc := cJ0_checkIndex_df160) (lv := [(0, .int p0), (1, .int p1)]) (by decide +kernel) rfl (Nat.le_of_ble_eq_true rfl) rfl ?_
  intro p e s m args below meth c A Q hA hQ hZ F hr hnm
  have hts := F.2.2.2.2.1
  have w_0 : (Cond.fieldLink RJ0 1053 "jdk/internal/util/Preconditions" "SIOOBE_FORMATTER" "Ljava/util/function/BiFunction;").before args s = true := hts _ (List.mem_of_getElem? (i := 1) rfl)
  refine g_iload_n F 0 dJ0_checkIndex_df160_0 rfl rfl ?_
  refine g_iload_n F 1 dJ0_checkIndex_df160_1 rfl rfl ?_
  rcases hZ.2.2.2.2.2 with hz | ⟨t9, hz⟩
  · refine uz_gets F hz w_0 dJ0_checkIndex_df160_2 ?_
    refine uz_call0Si (k := 0) (n := 0) (As := [.int p0, .int p1, .null]) (st := []) F zS_st hZ (fun sz => S_J3_checkIndex_8e157_n l D q v n bs hn p0 s0 p1 s1 e0 (by omega) e1 (by omega) (by omega) sz) (va_cwS 3 hts gJ0_checkIndex_df160_J3_checkIndex_8e157 rfl rfl rfl (by decide +kernel) ⟨Nat.le_of_ble_eq_true rfl, Nat.le_of_ble_eq_true rfl⟩) rfl (Nat.le_of_ble_eq_true rfl) ⟨Nat.zero_le _, Nat.zero_le _⟩ dJ0_checkIndex_df160_5 (fun r1 _ hw2 => ?_)
    refine g_pop F dJ0_checkIndex_df160_8 rfl ?_
    exact u_vret F hA hQ hr () trivial rfl rfl dJ0_checkIndex_df160_9
  · refine uz_gets F hz w_0 dJ0_checkIndex_df160_2 ?_
    refine uz_call0Si (k := 0) (n := 0) (As := [.int p0, .int p1, .ref t9]) (st := []) F zS_st hZ (fun sz => S_J3_checkIndex_8e157_r l D q v n bs hn p0 s0 p1 s1 t9 e0 (by omega) e1 (by omega) (by omega) sz) (va_cwS 3 hts gJ0_checkIndex_df160_J3_checkIndex_8e157 rfl rfl rfl (by decide +kernel) ⟨Nat.le_of_ble_eq_true rfl, Nat.le_of_ble_eq_true rfl⟩) rfl (Nat.le_of_ble_eq_true rfl) ⟨Nat.zero_le _, Nat.zero_le _⟩ dJ0_checkIndex_df160_5 (fun r3 _ hw4 => ?_)
    refine g_pop F dJ0_checkIndex_df160_8 rfl ?_
    exact u_vret F hA hQ hr () trivial rfl rfl dJ0_checkIndex_df160_9

theorem dJ1_charAt_3b067_0 : decode cJ1_charAt_3b067 0 = .ok (.iload_n 1, 1) := by decide +kernel
theorem dJ1_charAt_3b067_1 : decode cJ1_charAt_3b067 1 = .ok (.aload_n 0, 1) := by decide +kernel
theorem dJ1_charAt_3b067_2 : decode cJ1_charAt_3b067 2 = .ok (.arraylength, 1) := by decide +kernel
theorem dJ1_charAt_3b067_3 : decode cJ1_charAt_3b067 3 = .ok (.invokestatic 9, 3) := by decide +kernel
theorem dJ1_charAt_3b067_6 : decode cJ1_charAt_3b067 6 = .ok (.aload_n 0, 1) := by decide +kernel
theorem dJ1_charAt_3b067_7 : decode cJ1_charAt_3b067 7 = .ok (.iload_n 1, 1) := by decide +kernel
theorem dJ1_charAt_3b067_8 : decode cJ1_charAt_3b067 8 = .ok (.baload, 1) := by decide +kernel
theorem dJ1_charAt_3b067_9 : decode cJ1_charAt_3b067 9 = .ok (.sipush 255, 3) := by decide +kernel
theorem dJ1_charAt_3b067_12 : decode cJ1_charAt_3b067 12 = .ok (.iand, 1) := by decide +kernel
theorem dJ1_charAt_3b067_13 : decode cJ1_charAt_3b067 13 = .ok (.i2c, 1) := by decide +kernel
theorem dJ1_charAt_3b067_14 : decode cJ1_charAt_3b067 14 = .ok (.ireturn, 1) := by decide +kernel
set_option maxRecDepth 20000 in
theorem ggJ1_charAt_3b067_J0_checkIndex_df160 : GoodIn wsJ1_charAt_3b067 wsJ0_checkIndex_df160 := goodIn_r _ [4, 5, 6, 7, 8, 9] rfl (by decide +kernel)
set_option maxRecDepth 20000 in
theorem gJ1_charAt_3b067_J0_checkIndex_df160 : GoodIn wsJ1_charAt_3b067 (va_wsS RJ1 9 yJ0_checkIndex_df160 wsJ0_checkIndex_df160) := goodIn_app (goodIn_of _ (by decide +kernel)) ggJ1_charAt_3b067_J0_checkIndex_df160
set_option maxHeartbeats 4000000 in
set_option maxRecDepth 100000 in
theorem S_J1_charAt_3b067 (l : Launch) (D : va_G) (q v n : Nat) (bs : Nat → Int32) (hn : n ≤ 1000) (p1 : Int32) (s1 : Int) (e1 : p1.toInt = s1) (h1 : 0 ≤ s1 ∧ s1 ≤ 1000) (pi : 0 ≤ s1 ∧ s1 < n) (sz : Nat) : KiZ (zS q v n bs) l yJ1_charAt_3b067 wsJ1_charAt_3b067 3 83 D [.ref v, .int p1] [] [] sz (fun (r : Int32) (_ : Unit) => (0 ≤ r.toInt ∧ r.toInt ≤ 255) ∧ (r.toInt = (bs (s1).toNat &&& 255).toInt)) (fun (_ : Unit) => []) := by
  unfold KiZ
  refine gz_ofW (cc := cJ1_charAt_3b067) (lv := [(0, .ref v), (1, .int p1)]) (by decide +kernel) rfl (Nat.le_of_ble_eq_true rfl) rfl ?_
  intro p e s m args below meth c A Q hA hQ hZ F hr hnm
  have hts := F.2.2.2.2.1
  refine g_iload_n F 1 dJ1_charAt_3b067_0 rfl rfl ?_
  refine g_aload_n F 0 dJ1_charAt_3b067_1 rfl rfl ?_
  refine uz_tlen F hZ.2.2.2.1 (Int32.ofNat n) rfl dJ1_charAt_3b067_2 ?_
  refine uz_call0Sv (k := 0) (n := 0) (As := [.int p1, .int (Int32.ofNat n)]) (st := []) F zS_st hZ (fun sz => S_J0_checkIndex_df160 l D q v n bs hn p1 s1 (Int32.ofNat n) (n : Int) e1 (by omega) (ti_nat hn) (by omega) (by omega) sz) (va_cwS 2 hts gJ1_charAt_3b067_J0_checkIndex_df160 rfl rfl rfl (by decide +kernel) ⟨Nat.le_of_ble_eq_true rfl, Nat.le_of_ble_eq_true rfl⟩) rfl (Nat.le_of_ble_eq_true rfl) ⟨Nat.zero_le _, Nat.zero_le _⟩ dJ1_charAt_3b067_3 (fun _ hw2 => ?_)
  refine g_aload_n F 0 dJ1_charAt_3b067_6 rfl rfl ?_
  refine g_iload_n F 1 dJ1_charAt_3b067_7 rfl rfl ?_
  refine uz_tbx F hZ.2.2.2.1 s1 e1 (by omega) (by omega) dJ1_charAt_3b067_8 ?_
  refine g_sipush F 255 dJ1_charAt_3b067_9 (by decide) ?_
  refine g_iand F dJ1_charAt_3b067_12 ?_
  have h255 := ti_andm (x := (bs (s1).toNat)) (y := 255) (b := 255) rfl (by decide)
  refine uz_i2c F dJ1_charAt_3b067_13 (((bs (s1).toNat) &&& 255) : Int32).toInt rfl (by omega) (by omega) ?_
  exact u_zret F hA hQ hr (ti_narC rfl (by omega) (by omega)) () ⟨(by have h9 := ti_rng ((bs (s1).toNat) &&& 255); have h8 := ti_nat hn; omega), rfl⟩ rfl rfl dJ1_charAt_3b067_14

theorem dJ0_charAt_5068e_0 : decode cJ0_charAt_5068e 0 = .ok (.aload_n 0, 1) := by decide +kernel
theorem dJ0_charAt_5068e_1 : decode cJ0_charAt_5068e 1 = .ok (.invokevirtual 492, 3) := by decide +kernel
theorem dJ0_charAt_5068e_4 : decode cJ0_charAt_5068e 4 = .ok (.ifCond .eq 12, 3) := by decide +kernel
theorem dJ0_charAt_5068e_7 : decode cJ0_charAt_5068e 7 = .ok (.aload_n 0, 1) := by decide +kernel
theorem dJ0_charAt_5068e_8 : decode cJ0_charAt_5068e 8 = .ok (.getfield 9, 3) := by decide +kernel
theorem dJ0_charAt_5068e_11 : decode cJ0_charAt_5068e 11 = .ok (.iload_n 1, 1) := by decide +kernel
theorem dJ0_charAt_5068e_12 : decode cJ0_charAt_5068e 12 = .ok (.invokestatic 495, 3) := by decide +kernel
theorem dJ0_charAt_5068e_15 : decode cJ0_charAt_5068e 15 = .ok (.ireturn, 1) := by decide +kernel
theorem dJ0_charAt_5068e_16 : decode cJ0_charAt_5068e 16 = .ok (.aload_n 0, 1) := by decide +kernel
theorem dJ0_charAt_5068e_17 : decode cJ0_charAt_5068e 17 = .ok (.getfield 9, 3) := by decide +kernel
theorem dJ0_charAt_5068e_20 : decode cJ0_charAt_5068e 20 = .ok (.iload_n 1, 1) := by decide +kernel
theorem dJ0_charAt_5068e_21 : decode cJ0_charAt_5068e 21 = .ok (.invokestatic 498, 3) := by decide +kernel
theorem dJ0_charAt_5068e_24 : decode cJ0_charAt_5068e 24 = .ok (.ireturn, 1) := by decide +kernel
set_option maxRecDepth 20000 in
theorem ggJ0_charAt_5068e_J0_isLatin1_aae02 : GoodIn wsJ0_charAt_5068e wsJ0_isLatin1_aae02 := goodIn_r _ [6, 7, 8] rfl (by decide +kernel)
set_option maxRecDepth 20000 in
theorem gJ0_charAt_5068e_J0_isLatin1_aae02 : GoodIn wsJ0_charAt_5068e (wsV RJ0 492 RJ0 yJ0_isLatin1_aae02 wsJ0_isLatin1_aae02) := goodIn_app (goodIn_of _ (by decide +kernel)) ggJ0_charAt_5068e_J0_isLatin1_aae02
set_option maxRecDepth 20000 in
theorem ggJ0_charAt_5068e_J1_charAt_3b067 : GoodIn wsJ0_charAt_5068e wsJ1_charAt_3b067 := goodIn_r _ [12, 13, 14, 5, 15, 16, 17, 18, 19, 20] rfl (by decide +kernel)
set_option maxRecDepth 20000 in
theorem gJ0_charAt_5068e_J1_charAt_3b067 : GoodIn wsJ0_charAt_5068e (va_wsS RJ0 495 yJ1_charAt_3b067 wsJ1_charAt_3b067) := goodIn_app (goodIn_of _ (by decide +kernel)) ggJ0_charAt_5068e_J1_charAt_3b067
set_option maxHeartbeats 4000000 in
set_option maxRecDepth 100000 in
theorem S_J0_charAt_5068e (l : Launch) (D : va_G) (q v n : Nat) (bs : Nat → Int32) (hn : n ≤ 1000) (p0 : Int32) (s0 : Int) (e0 : p0.toInt = s0) (h0 : 0 ≤ s0 ∧ s0 ≤ 1000) (pi : 0 ≤ s0 ∧ s0 < n) (sz : Nat) : KiZ (zS q v n bs) l yJ0_charAt_5068e wsJ0_charAt_5068e 4 104 D [.ref q, .int p0] [] [] sz (fun (r : Int32) (_ : Unit) => (0 ≤ r.toInt ∧ r.toInt ≤ 255) ∧ (r.toInt = (bs (s0).toNat &&& 255).toInt)) (fun (_ : Unit) => []) := by
  unfold KiZ
  refine gz_ofW (cc := cJ0_charAt_5068e) (lv := [(0, .ref q), (1, .int p0)]) (by decide +kernel) rfl (Nat.le_of_ble_eq_true rfl) rfl ?_
  intro p e s m args below meth c A Q hA hQ hZ F hr hnm
  have hts := F.2.2.2.2.1
  have w_0 : (Cond.fieldLink RJ0 9 "java/lang/String" "value" "[B").before args s = true := hts _ (List.mem_of_getElem? (i := 1) rfl)
  refine g_aload_n F 0 dJ0_charAt_5068e_0 rfl rfl ?_
  refine uz_call0Vi (k := 0) (n := 0) (b := q) (As := []) (st := []) F zS_st hZ (fun sz => S_J0_isLatin1_aae02 l D q v n bs hn   sz) (cwV 0 hts gJ0_charAt_5068e_J0_isLatin1_aae02 rfl rfl rfl (by decide +kernel) ⟨Nat.le_of_ble_eq_true rfl, Nat.le_of_ble_eq_true rfl⟩) hZ.1 rfl (Nat.le_of_ble_eq_true rfl) ⟨Nat.zero_le _, Nat.zero_le _⟩ dJ0_charAt_5068e_1 (fun r1 _ hw2 => ?_)
  have hw2 : r1.toInt = 1 := hw2
  refine g_fold 1 ((ti_eq rfl (show (1 : Int32).toInt = 1 from rfl)).mpr hw2) ?_
  refine v_if_eq F 16 dJ0_charAt_5068e_4 (by decide) 1 rfl (fun c3 => absurd c3 (by decide)) (fun c3 => ?_)
  refine g_aload_n F 0 dJ0_charAt_5068e_7 rfl rfl ?_
  refine uz_getf F hZ.2.2.1 w_0 dJ0_charAt_5068e_8 ?_
  refine g_iload_n F 1 dJ0_charAt_5068e_11 rfl rfl ?_
  refine uz_call0Si (k := 0) (n := 0) (As := [.ref v, .int p0]) (st := []) F zS_st hZ (fun sz => S_J1_charAt_3b067 l D q v n bs hn p0 s0 e0 (by omega) (by omega) sz) (va_cwS 2 hts gJ0_charAt_5068e_J1_charAt_3b067 rfl rfl rfl (by decide +kernel) ⟨Nat.le_of_ble_eq_true rfl, Nat.le_of_ble_eq_true rfl⟩) rfl (Nat.le_of_ble_eq_true rfl) ⟨Nat.zero_le _, Nat.zero_le _⟩ dJ0_charAt_5068e_12 (fun r4 _ hw5 => ?_)
  have hz6 := hw5.2
  have hw5 := hw5.1
  exact u_zret F hA hQ hr (ti_narC rfl (by omega) (by omega)) () ⟨(by have h9 := ti_rng r4; have h8 := ti_nat hn; omega), hz6⟩ rfl rfl dJ0_charAt_5068e_15

theorem dJ1_canEncode_9a6ad_0 : decode cJ1_canEncode_9a6ad 0 = .ok (.iload_n 0, 1) := by decide +kernel
theorem dJ1_canEncode_9a6ad_1 : decode cJ1_canEncode_9a6ad 1 = .ok (.ifCond .lt 14, 3) := by decide +kernel
theorem dJ1_canEncode_9a6ad_4 : decode cJ1_canEncode_9a6ad 4 = .ok (.iload_n 0, 1) := by decide +kernel
theorem dJ1_canEncode_9a6ad_5 : decode cJ1_canEncode_9a6ad 5 = .ok (.sipush 255, 3) := by decide +kernel
theorem dJ1_canEncode_9a6ad_8 : decode cJ1_canEncode_9a6ad 8 = .ok (.if_icmp .gt 7, 3) := by decide +kernel
theorem dJ1_canEncode_9a6ad_11 : decode cJ1_canEncode_9a6ad 11 = .ok (.iconst 1, 1) := by decide +kernel
theorem dJ1_canEncode_9a6ad_12 : decode cJ1_canEncode_9a6ad 12 = .ok (.goto 4, 3) := by decide +kernel
theorem dJ1_canEncode_9a6ad_15 : decode cJ1_canEncode_9a6ad 15 = .ok (.iconst 0, 1) := by decide +kernel
theorem dJ1_canEncode_9a6ad_16 : decode cJ1_canEncode_9a6ad 16 = .ok (.ireturn, 1) := by decide +kernel
set_option maxHeartbeats 4000000 in
set_option maxRecDepth 100000 in
theorem S_J1_canEncode_9a6ad (l : Launch) (D : va_G) (q v n : Nat) (bs : Nat → Int32) (hn : n ≤ 1000) (p0 : Int32) (s0 : Int) (e0 : p0.toInt = s0) (sz : Nat) : KiZ (zS q v n bs) l yJ1_canEncode_9a6ad wsJ1_canEncode_9a6ad 1 40 D [.int p0] [] [] sz (fun (r : Int32) (_ : Unit) => (0 ≤ r.toInt ∧ r.toInt ≤ 1) ∧ ((r.toInt = 1 ∧ 0 ≤ s0 ∧ s0 ≤ 255) ∨ (r.toInt = 0 ∧ (s0 < 0 ∨ 255 < s0)))) (fun (_ : Unit) => []) := by
  unfold KiZ
  refine gz_ofW (cc := cJ1_canEncode_9a6ad) (lv := [(0, .int p0)]) (by decide +kernel) rfl (Nat.le_of_ble_eq_true rfl) rfl ?_
  intro p e s m args below meth c A Q hA hQ hZ F hr hnm
  have hts := F.2.2.2.2.1
  have rg0 : -2147483648 ≤ s0 ∧ s0 ≤ 2147483647 := e0 ▸ ti_rng p0
  refine g_iload_n F 0 dJ1_canEncode_9a6ad_0 rfl rfl ?_
  refine v_if_lt F 15 dJ1_canEncode_9a6ad_1 (by decide) s0 e0 (fun c1 => ?_) (fun c1 => ?_)
  · refine g_iconst F 0 dJ1_canEncode_9a6ad_15 (by decide) ?_
    exact u_zret F hA hQ hr rfl () ⟨(by decide), by first | exact Or.inl ⟨by decide, by omega, by omega⟩ | exact Or.inr ⟨by decide, by omega⟩⟩ rfl rfl dJ1_canEncode_9a6ad_16
  · refine g_iload_n F 0 dJ1_canEncode_9a6ad_4 rfl rfl ?_
    refine g_sipush F 255 dJ1_canEncode_9a6ad_5 (by decide) ?_
    refine v_icmp_gt F 15 dJ1_canEncode_9a6ad_8 (by decide) s0 255 e0 rfl (fun c2 => ?_) (fun c2 => ?_)
    · refine g_iconst F 0 dJ1_canEncode_9a6ad_15 (by decide) ?_
      exact u_zret F hA hQ hr rfl () ⟨(by decide), by first | exact Or.inl ⟨by decide, by omega, by omega⟩ | exact Or.inr ⟨by decide, by omega⟩⟩ rfl rfl dJ1_canEncode_9a6ad_16
    · refine g_iconst F 1 dJ1_canEncode_9a6ad_11 (by decide) ?_
      refine g_goto F 16 dJ1_canEncode_9a6ad_12 (by decide) ?_
      exact u_zret F hA hQ hr rfl () ⟨(by decide), by first | exact Or.inl ⟨by decide, by omega, by omega⟩ | exact Or.inr ⟨by decide, by omega⟩⟩ rfl rfl dJ1_canEncode_9a6ad_16

theorem dJ1_indexOfChar_4cfef_0 : decode cJ1_indexOfChar_4cfef 0 = .ok (.iload_n 1, 1) := by decide +kernel
theorem dJ1_indexOfChar_4cfef_1 : decode cJ1_indexOfChar_4cfef 1 = .ok (.i2b, 1) := by decide +kernel
theorem dJ1_indexOfChar_4cfef_2 : decode cJ1_indexOfChar_4cfef 2 = .ok (.istore 4, 2) := by decide +kernel
theorem dJ1_indexOfChar_4cfef_4 : decode cJ1_indexOfChar_4cfef 4 = .ok (.iload_n 2, 1) := by decide +kernel
theorem dJ1_indexOfChar_4cfef_5 : decode cJ1_indexOfChar_4cfef 5 = .ok (.istore 5, 2) := by decide +kernel
theorem dJ1_indexOfChar_4cfef_7 : decode cJ1_indexOfChar_4cfef 7 = .ok (.iload 5, 2) := by decide +kernel
theorem dJ1_indexOfChar_4cfef_9 : decode cJ1_indexOfChar_4cfef 9 = .ok (.iload_n 3, 1) := by decide +kernel
theorem dJ1_indexOfChar_4cfef_10 : decode cJ1_indexOfChar_4cfef 10 = .ok (.if_icmp .ge 21, 3) := by decide +kernel
theorem dJ1_indexOfChar_4cfef_13 : decode cJ1_indexOfChar_4cfef 13 = .ok (.aload_n 0, 1) := by decide +kernel
theorem dJ1_indexOfChar_4cfef_14 : decode cJ1_indexOfChar_4cfef 14 = .ok (.iload 5, 2) := by decide +kernel
theorem dJ1_indexOfChar_4cfef_16 : decode cJ1_indexOfChar_4cfef 16 = .ok (.baload, 1) := by decide +kernel
theorem dJ1_indexOfChar_4cfef_17 : decode cJ1_indexOfChar_4cfef 17 = .ok (.iload 4, 2) := by decide +kernel
theorem dJ1_indexOfChar_4cfef_19 : decode cJ1_indexOfChar_4cfef 19 = .ok (.if_icmp .ne 6, 3) := by decide +kernel
theorem dJ1_indexOfChar_4cfef_22 : decode cJ1_indexOfChar_4cfef 22 = .ok (.iload 5, 2) := by decide +kernel
theorem dJ1_indexOfChar_4cfef_24 : decode cJ1_indexOfChar_4cfef 24 = .ok (.ireturn, 1) := by decide +kernel
theorem dJ1_indexOfChar_4cfef_25 : decode cJ1_indexOfChar_4cfef 25 = .ok (.iinc 5 1, 3) := by decide +kernel
theorem dJ1_indexOfChar_4cfef_28 : decode cJ1_indexOfChar_4cfef 28 = .ok (.goto (-21), 3) := by decide +kernel
theorem dJ1_indexOfChar_4cfef_31 : decode cJ1_indexOfChar_4cfef 31 = .ok (.iconst (-1), 1) := by decide +kernel
theorem dJ1_indexOfChar_4cfef_32 : decode cJ1_indexOfChar_4cfef 32 = .ok (.ireturn, 1) := by decide +kernel
set_option maxHeartbeats 4000000 in
set_option maxRecDepth 100000 in
theorem S_J1_indexOfChar_4cfef (l : Launch) (D : va_G) (q v n : Nat) (bs : Nat → Int32) (hn : n ≤ 1000) (p1 : Int32) (s1 : Int) (p2 : Int32) (s2 : Int) (p3 : Int32) (s3 : Int) (e1 : p1.toInt = s1) (e2 : p2.toInt = s2) (h2 : 0 ≤ s2 ∧ s2 ≤ 1000) (e3 : p3.toInt = s3) (h3 : 0 ≤ s3 ∧ s3 ≤ 1000) (pn : s3 ≤ n) (sz : Nat) : KiZ (zS q v n bs) l yJ1_indexOfChar_4cfef wsJ1_indexOfChar_4cfef 1 40 D [.ref v, .int p1, .int p2, .int p3] [] [] sz (fun (r : Int32) (_ : Unit) => ((-1) ≤ r.toInt ∧ r.toInt ≤ 999) ∧ (s2 = 0 → zIx bs s3 (Int32.toInt8 p1).toInt32 r.toInt)) (fun (_ : Unit) => []) := by
  unfold KiZ
  refine gz_ofW (cc := cJ1_indexOfChar_4cfef) (lv := [(0, .ref v), (1, .int p1), (2, .int p2), (3, .int p3)]) (by decide +kernel) rfl (Nat.le_of_ble_eq_true rfl) rfl ?_
  intro p e s m args below meth c A Q hA hQ hZ F hr hnm
  have hts := F.2.2.2.2.1
  have rg1 : -2147483648 ≤ s1 ∧ s1 ≤ 2147483647 := e1 ▸ ti_rng p1
  have J_7 : ∀ (fuel : Nat) (x7_4 : Int32) (x7_5 : Int32), (2147483647 - x7_5.toInt).toNat < fuel → (0 ≤ x7_5.toInt ∧ x7_5.toInt ≤ 1000) → (x7_4 = (Int32.toInt8 p1).toInt32) → (s2 = 0 → ∀ j : Nat, (j : Int) < x7_5.toInt → bs j ≠ (Int32.toInt8 p1).toInt32) → gG p l e (gR 1 0 0 40) s m args below meth c D A 6 Q 0 0 [] [] [(0, .ref v), (3, .int p3), (4, .int x7_4), (5, .int x7_5)] 7 [] := by
    intro fuel
    induction fuel with
    | zero => intro x7_4 x7_5 hm; exact absurd hm (Nat.not_lt_zero _)
    | succ fuel_7 ih_7 =>
      intro x7_4 x7_5 hm_7 h7_5 zc zi
      refine g_iload F 3 dJ1_indexOfChar_4cfef_7 rfl ?_
      refine g_iload_n F 1 dJ1_indexOfChar_4cfef_9 rfl rfl ?_
      refine v_icmp_ge F 31 dJ1_indexOfChar_4cfef_10 (by decide) x7_5.toInt s3 rfl e3 (fun c1 => ?_) (fun c1 => ?_)
      · refine g_iconst F (-1) dJ1_indexOfChar_4cfef_31 (by decide) ?_
        exact u_iret F hA hQ hr () ⟨(by decide), fun h2 => Or.inr ⟨by decide, fun j hj => zi h2 j (by omega)⟩⟩ rfl rfl dJ1_indexOfChar_4cfef_32
      · refine g_aload_n F 0 dJ1_indexOfChar_4cfef_13 rfl rfl ?_
        refine g_iload F 3 dJ1_indexOfChar_4cfef_14 rfl ?_
        refine uz_tbx F hZ.2.2.2.1 x7_5.toInt rfl (by omega) (by omega) dJ1_indexOfChar_4cfef_16 ?_
        refine g_iload F 2 dJ1_indexOfChar_4cfef_17 rfl ?_
        have b3 := ti_rng (bs (x7_5.toInt).toNat)
        have b4 := ti_rng x7_4
        refine v_icmp_ne F 25 dJ1_indexOfChar_4cfef_19 (by decide) (bs (x7_5.toInt).toNat).toInt x7_4.toInt rfl rfl (fun c5 => ?_) (fun c5 => ?_)
        · refine u_iinc F (fun v_ => [(5, .int v_), (0, .ref v), (3, .int p3), (4, .int x7_4)]) dJ1_indexOfChar_4cfef_25 (j := 3) rfl x7_5.toInt 1 rfl rfl (by omega) (by omega) (by decide) (fun _ => rfl) (fun y6 ey6 => ?_)
          refine g_goto F 7 dJ1_indexOfChar_4cfef_28 (by decide) ?_
          refine g_locals [(0, .ref v), (3, .int p3), (4, .int x7_4), (5, .int y6)] [1, 2, 3, 0] rfl ?_
          exact ih_7 x7_4 y6 (by omega) (by have h9 := ti_rng y6; omega) (zc) (fun h => zIx_1 (zi h) (by omega) (by omega) (fun e => c5 (by rw [zc]; exact congrArg Int32.toInt e)))
        · refine g_iload F 3 dJ1_indexOfChar_4cfef_22 rfl ?_
          exact u_iret F hA hQ hr () ⟨(by have h9 := ti_rng x7_5; have h8 := ti_nat hn; omega), fun h2 => Or.inl ⟨by omega, by omega, by rw [← zc]; exact Int32.toInt_inj.mp c5, zi h2⟩⟩ rfl rfl dJ1_indexOfChar_4cfef_24
  refine g_iload_n F 1 dJ1_indexOfChar_4cfef_0 rfl rfl ?_
  refine g_i2b F dJ1_indexOfChar_4cfef_1 ?_
  refine g_istore F [(4, .int (Int32.toInt8 p1).toInt32), (0, .ref v), (1, .int p1), (2, .int p2), (3, .int p3)] dJ1_indexOfChar_4cfef_2 (by decide) rfl ?_
  refine g_iload_n F 3 dJ1_indexOfChar_4cfef_4 rfl rfl ?_
  refine g_istore F [(5, .int p2), (4, .int (Int32.toInt8 p1).toInt32), (0, .ref v), (1, .int p1), (2, .int p2), (3, .int p3)] dJ1_indexOfChar_4cfef_5 (by decide) rfl ?_
  refine g_locals [(0, .ref v), (3, .int p3), (4, .int (Int32.toInt8 p1).toInt32), (5, .int p2)] [2, 5, 1, 0] rfl ?_
  exact J_7 _ (Int32.toInt8 p1).toInt32 p2 (Nat.lt_succ_self _) (by have h9 := ti_rng p2; omega) (rfl) (fun h j hj => by omega)

theorem dJ1_indexOf_4cfef_0 : decode cJ1_indexOf_4cfef 0 = .ok (.iload_n 1, 1) := by decide +kernel
theorem dJ1_indexOf_4cfef_1 : decode cJ1_indexOf_4cfef 1 = .ok (.invokestatic 88, 3) := by decide +kernel
theorem dJ1_indexOf_4cfef_4 : decode cJ1_indexOf_4cfef 4 = .ok (.ifCond .ne 5, 3) := by decide +kernel
theorem dJ1_indexOf_4cfef_7 : decode cJ1_indexOf_4cfef 7 = .ok (.iconst (-1), 1) := by decide +kernel
theorem dJ1_indexOf_4cfef_8 : decode cJ1_indexOf_4cfef 8 = .ok (.ireturn, 1) := by decide +kernel
theorem dJ1_indexOf_4cfef_9 : decode cJ1_indexOf_4cfef 9 = .ok (.iload_n 2, 1) := by decide +kernel
theorem dJ1_indexOf_4cfef_10 : decode cJ1_indexOf_4cfef 10 = .ok (.iconst 0, 1) := by decide +kernel
theorem dJ1_indexOf_4cfef_11 : decode cJ1_indexOf_4cfef 11 = .ok (.invokestatic 92, 3) := by decide +kernel
theorem dJ1_indexOf_4cfef_14 : decode cJ1_indexOf_4cfef 14 = .ok (.istore_n 2, 1) := by decide +kernel
theorem dJ1_indexOf_4cfef_15 : decode cJ1_indexOf_4cfef 15 = .ok (.iload_n 3, 1) := by decide +kernel
theorem dJ1_indexOf_4cfef_16 : decode cJ1_indexOf_4cfef 16 = .ok (.aload_n 0, 1) := by decide +kernel
theorem dJ1_indexOf_4cfef_17 : decode cJ1_indexOf_4cfef 17 = .ok (.arraylength, 1) := by decide +kernel
theorem dJ1_indexOf_4cfef_18 : decode cJ1_indexOf_4cfef 18 = .ok (.invokestatic 38, 3) := by decide +kernel
theorem dJ1_indexOf_4cfef_21 : decode cJ1_indexOf_4cfef 21 = .ok (.istore_n 3, 1) := by decide +kernel
theorem dJ1_indexOf_4cfef_22 : decode cJ1_indexOf_4cfef 22 = .ok (.iload_n 2, 1) := by decide +kernel
theorem dJ1_indexOf_4cfef_23 : decode cJ1_indexOf_4cfef 23 = .ok (.iload_n 3, 1) := by decide +kernel
theorem dJ1_indexOf_4cfef_24 : decode cJ1_indexOf_4cfef 24 = .ok (.if_icmp .lt 5, 3) := by decide +kernel
theorem dJ1_indexOf_4cfef_27 : decode cJ1_indexOf_4cfef 27 = .ok (.iconst (-1), 1) := by decide +kernel
theorem dJ1_indexOf_4cfef_28 : decode cJ1_indexOf_4cfef 28 = .ok (.ireturn, 1) := by decide +kernel
theorem dJ1_indexOf_4cfef_29 : decode cJ1_indexOf_4cfef 29 = .ok (.aload_n 0, 1) := by decide +kernel
theorem dJ1_indexOf_4cfef_30 : decode cJ1_indexOf_4cfef 30 = .ok (.iload_n 1, 1) := by decide +kernel
theorem dJ1_indexOf_4cfef_31 : decode cJ1_indexOf_4cfef 31 = .ok (.iload_n 2, 1) := by decide +kernel
theorem dJ1_indexOf_4cfef_32 : decode cJ1_indexOf_4cfef 32 = .ok (.iload_n 3, 1) := by decide +kernel
theorem dJ1_indexOf_4cfef_33 : decode cJ1_indexOf_4cfef 33 = .ok (.invokestatic 95, 3) := by decide +kernel
theorem dJ1_indexOf_4cfef_36 : decode cJ1_indexOf_4cfef 36 = .ok (.ireturn, 1) := by decide +kernel
set_option maxRecDepth 20000 in
theorem ggJ1_indexOf_4cfef_J1_canEncode_9a6ad : GoodIn wsJ1_indexOf_4cfef wsJ1_canEncode_9a6ad := goodIn_r _ [11] rfl (by decide +kernel)
set_option maxRecDepth 20000 in
theorem gJ1_indexOf_4cfef_J1_canEncode_9a6ad : GoodIn wsJ1_indexOf_4cfef (va_wsS RJ1 88 yJ1_canEncode_9a6ad wsJ1_canEncode_9a6ad) := goodIn_app (goodIn_of _ (by decide +kernel)) ggJ1_indexOf_4cfef_J1_canEncode_9a6ad
set_option maxRecDepth 20000 in
theorem ggJ1_indexOf_4cfef_J1_indexOfChar_4cfef : GoodIn wsJ1_indexOf_4cfef wsJ1_indexOfChar_4cfef := goodIn_r _ [14] rfl (by decide +kernel)
set_option maxRecDepth 20000 in
theorem gJ1_indexOf_4cfef_J1_indexOfChar_4cfef : GoodIn wsJ1_indexOf_4cfef (va_wsS RJ1 95 yJ1_indexOfChar_4cfef wsJ1_indexOfChar_4cfef) := goodIn_app (goodIn_of _ (by decide +kernel)) ggJ1_indexOf_4cfef_J1_indexOfChar_4cfef
set_option maxHeartbeats 4000000 in
set_option maxRecDepth 100000 in
theorem S_J1_indexOf_4cfef (l : Launch) (D : va_G) (q v n : Nat) (bs : Nat → Int32) (hn : n ≤ 1000) (p1 : Int32) (s1 : Int) (p2 : Int32) (s2 : Int) (p3 : Int32) (s3 : Int) (e1 : p1.toInt = s1) (e2 : p2.toInt = s2) (e3 : p3.toInt = s3) (sz : Nat) : KiZ (zS q v n bs) l yJ1_indexOf_4cfef wsJ1_indexOf_4cfef 2 65 D [.ref v, .int p1, .int p2, .int p3] [] [] sz (fun (r : Int32) (_ : Unit) => ((-1) ≤ r.toInt ∧ r.toInt ≤ 999) ∧ (0 ≤ s1 ∧ s1 ≤ 255 ∧ s2 = 0 ∧ s3 = (n : Int) → zIx bs n (Int32.toInt8 p1).toInt32 r.toInt)) (fun (_ : Unit) => []) := by
  unfold KiZ
  refine gz_ofW (cc := cJ1_indexOf_4cfef) (lv := [(0, .ref v), (1, .int p1), (2, .int p2), (3, .int p3)]) (by decide +kernel) rfl (Nat.le_of_ble_eq_true rfl) rfl ?_
  intro p e s m args below meth c A Q hA hQ hZ F hr hnm
  have hts := F.2.2.2.2.1
  have w_0 : (Cond.methodLink RJ1 92 Lib.Math.max.name).before args s = true := hts _ (List.mem_of_getElem? (i := 1) rfl)
  have w_1 : (Cond.static Lib.Math.max.name).before args s = true := hts _ (List.mem_of_getElem? (i := 2) rfl)
  have w_2 : (Cond.initialized "java/lang/Math").before args s = true := hts _ (List.mem_of_getElem? (i := 3) rfl)
  have w_3 : (Cond.code Lib.Math.max.name Lib.Math.max.code 2 (some .int)).before args s = true := hts _ (List.mem_of_getElem? (i := 4) rfl)
  have w_4 : (Cond.methodLink RJ1 38 Lib.Math.min.name).before args s = true := hts _ (List.mem_of_getElem? (i := 5) rfl)
  have w_5 : (Cond.static Lib.Math.min.name).before args s = true := hts _ (List.mem_of_getElem? (i := 6) rfl)
  have w_6 : (Cond.code Lib.Math.min.name Lib.Math.min.code 2 (some .int)).before args s = true := hts _ (List.mem_of_getElem? (i := 7) rfl)
  have rg1 : -2147483648 ≤ s1 ∧ s1 ≤ 2147483647 := e1 ▸ ti_rng p1
  have rg2 : -2147483648 ≤ s2 ∧ s2 ≤ 2147483647 := e2 ▸ ti_rng p2
  have rg3 : -2147483648 ≤ s3 ∧ s3 ≤ 2147483647 := e3 ▸ ti_rng p3
  refine g_iload_n F 1 dJ1_indexOf_4cfef_0 rfl rfl ?_
  refine uz_call0Si (k := 0) (n := 0) (As := [.int p1]) (st := []) F zS_st hZ (fun sz => S_J1_canEncode_9a6ad l D q v n bs hn p1 s1 e1 sz) (va_cwS 1 hts gJ1_indexOf_4cfef_J1_canEncode_9a6ad rfl rfl rfl (by decide +kernel) ⟨Nat.le_of_ble_eq_true rfl, Nat.le_of_ble_eq_true rfl⟩) rfl (Nat.le_of_ble_eq_true rfl) ⟨Nat.zero_le _, Nat.zero_le _⟩ dJ1_indexOf_4cfef_1 (fun r1 _ hw2 => ?_)
  have hz3 := hw2.2
  have hw2 := hw2.1
  refine v_if_ne F 9 dJ1_indexOf_4cfef_4 (by decide) r1.toInt rfl (fun c4 => ?_) (fun c4 => ?_)
  · refine g_iload_n F 2 dJ1_indexOf_4cfef_9 rfl rfl ?_
    refine g_iconst F 0 dJ1_indexOf_4cfef_10 (by decide) ?_
    refine u_mmax F w_0 w_1 w_2 w_3 (Nat.le_of_ble_eq_true rfl) (Nat.le_of_ble_eq_true rfl) (Nat.le_of_ble_eq_true rfl) (Nat.le_of_ble_eq_true rfl) dJ1_indexOf_4cfef_11 s2 0 e2 rfl (fun y5 ey5 => ?_)
    refine g_istore_n F [(2, .int y5), (0, .ref v), (1, .int p1), (3, .int p3)] dJ1_indexOf_4cfef_14 rfl (by decide) rfl ?_
    refine g_iload_n F 3 dJ1_indexOf_4cfef_15 rfl rfl ?_
    refine g_aload_n F 1 dJ1_indexOf_4cfef_16 rfl rfl ?_
    refine uz_tlen F hZ.2.2.2.1 (Int32.ofNat n) rfl dJ1_indexOf_4cfef_17 ?_
    refine u_mmin F w_4 w_5 w_2 w_6 (Nat.le_of_ble_eq_true rfl) (Nat.le_of_ble_eq_true rfl) (Nat.le_of_ble_eq_true rfl) (Nat.le_of_ble_eq_true rfl) dJ1_indexOf_4cfef_18 s3 (n : Int) e3 (ti_nat hn) (fun y6 ey6 => ?_)
    refine g_istore_n F [(3, .int y6), (2, .int y5), (0, .ref v), (1, .int p1)] dJ1_indexOf_4cfef_21 rfl (by decide) rfl ?_
    refine g_iload_n F 1 dJ1_indexOf_4cfef_22 rfl rfl ?_
    refine g_iload_n F 0 dJ1_indexOf_4cfef_23 rfl rfl ?_
    have b7 := ti_rng y5
    have b8 := ti_rng y6
    refine v_icmp_lt F 29 dJ1_indexOf_4cfef_24 (by decide) y5.toInt y6.toInt rfl rfl (fun c9 => ?_) (fun c9 => ?_)
    · refine g_aload_n F 2 dJ1_indexOf_4cfef_29 rfl rfl ?_
      refine g_iload_n F 3 dJ1_indexOf_4cfef_30 rfl rfl ?_
      refine g_iload_n F 1 dJ1_indexOf_4cfef_31 rfl rfl ?_
      refine g_iload_n F 0 dJ1_indexOf_4cfef_32 rfl rfl ?_
      refine uz_call0Si (k := 0) (n := 0) (As := [.ref v, .int p1, .int y5, .int y6]) (st := []) F zS_st hZ (fun sz => S_J1_indexOfChar_4cfef l D q v n bs hn p1 s1 y5 y5.toInt y6 y6.toInt e1 rfl (by omega) rfl (by omega) (by omega) sz) (va_cwS 4 hts gJ1_indexOf_4cfef_J1_indexOfChar_4cfef rfl rfl rfl (by decide +kernel) ⟨Nat.le_of_ble_eq_true rfl, Nat.le_of_ble_eq_true rfl⟩) rfl (Nat.le_of_ble_eq_true rfl) ⟨Nat.zero_le _, Nat.zero_le _⟩ dJ1_indexOf_4cfef_33 (fun r10 _ hw11 => ?_)
      have hz12 := hw11.2
      have hw11 := hw11.1
      exact u_iret F hA hQ hr () ⟨(by have h9 := ti_rng r10; have h8 := ti_nat hn; omega), fun h => by have h8 := hz12 (by omega); rw [show y6.toInt = (n : Int) by omega] at h8; exact h8⟩ rfl rfl dJ1_indexOf_4cfef_36
    · refine g_iconst F (-1) dJ1_indexOf_4cfef_27 (by decide) ?_
      exact u_iret F hA hQ hr () ⟨(by decide), fun h => Or.inr ⟨by decide, fun j hj => by omega⟩⟩ rfl rfl dJ1_indexOf_4cfef_28
  · refine g_iconst F (-1) dJ1_indexOf_4cfef_7 (by decide) ?_
    exact u_iret F hA hQ hr () ⟨(by decide), fun h => absurd h (by omega)⟩ rfl rfl dJ1_indexOf_4cfef_8

theorem dJ0_indexOf_7cf53_0 : decode cJ0_indexOf_7cf53 0 = .ok (.aload_n 0, 1) := by decide +kernel
theorem dJ0_indexOf_7cf53_1 : decode cJ0_indexOf_7cf53 1 = .ok (.invokevirtual 492, 3) := by decide +kernel
theorem dJ0_indexOf_7cf53_4 : decode cJ0_indexOf_7cf53 4 = .ok (.ifCond .eq 19, 3) := by decide +kernel
theorem dJ0_indexOf_7cf53_7 : decode cJ0_indexOf_7cf53 7 = .ok (.aload_n 0, 1) := by decide +kernel
theorem dJ0_indexOf_7cf53_8 : decode cJ0_indexOf_7cf53 8 = .ok (.getfield 9, 3) := by decide +kernel
theorem dJ0_indexOf_7cf53_11 : decode cJ0_indexOf_7cf53 11 = .ok (.iload_n 1, 1) := by decide +kernel
theorem dJ0_indexOf_7cf53_12 : decode cJ0_indexOf_7cf53 12 = .ok (.iload_n 2, 1) := by decide +kernel
theorem dJ0_indexOf_7cf53_13 : decode cJ0_indexOf_7cf53 13 = .ok (.aload_n 0, 1) := by decide +kernel
theorem dJ0_indexOf_7cf53_14 : decode cJ0_indexOf_7cf53 14 = .ok (.invokevirtual 505, 3) := by decide +kernel
theorem dJ0_indexOf_7cf53_17 : decode cJ0_indexOf_7cf53 17 = .ok (.invokestatic 637, 3) := by decide +kernel
theorem dJ0_indexOf_7cf53_20 : decode cJ0_indexOf_7cf53 20 = .ok (.goto 16, 3) := by decide +kernel
theorem dJ0_indexOf_7cf53_23 : decode cJ0_indexOf_7cf53 23 = .ok (.aload_n 0, 1) := by decide +kernel
theorem dJ0_indexOf_7cf53_24 : decode cJ0_indexOf_7cf53 24 = .ok (.getfield 9, 3) := by decide +kernel
theorem dJ0_indexOf_7cf53_27 : decode cJ0_indexOf_7cf53 27 = .ok (.iload_n 1, 1) := by decide +kernel
theorem dJ0_indexOf_7cf53_28 : decode cJ0_indexOf_7cf53 28 = .ok (.iload_n 2, 1) := by decide +kernel
theorem dJ0_indexOf_7cf53_29 : decode cJ0_indexOf_7cf53 29 = .ok (.aload_n 0, 1) := by decide +kernel
theorem dJ0_indexOf_7cf53_30 : decode cJ0_indexOf_7cf53 30 = .ok (.invokevirtual 505, 3) := by decide +kernel
theorem dJ0_indexOf_7cf53_33 : decode cJ0_indexOf_7cf53 33 = .ok (.invokestatic 640, 3) := by decide +kernel
theorem dJ0_indexOf_7cf53_36 : decode cJ0_indexOf_7cf53 36 = .ok (.ireturn, 1) := by decide +kernel
set_option maxRecDepth 20000 in
theorem ggJ0_indexOf_7cf53_J0_isLatin1_aae02 : GoodIn wsJ0_indexOf_7cf53 wsJ0_isLatin1_aae02 := goodIn_r _ [6, 7, 8] rfl (by decide +kernel)
set_option maxRecDepth 20000 in
theorem gJ0_indexOf_7cf53_J0_isLatin1_aae02 : GoodIn wsJ0_indexOf_7cf53 (wsV RJ0 492 RJ0 yJ0_isLatin1_aae02 wsJ0_isLatin1_aae02) := goodIn_app (goodIn_of _ (by decide +kernel)) ggJ0_indexOf_7cf53_J0_isLatin1_aae02
set_option maxRecDepth 20000 in
theorem ggJ0_indexOf_7cf53_J0_length_8abf5 : GoodIn wsJ0_indexOf_7cf53 wsJ0_length_8abf5 := goodIn_r _ [12, 1, 13, 14, 15, 5, 16, 7, 8] rfl (by decide +kernel)
set_option maxRecDepth 20000 in
theorem gJ0_indexOf_7cf53_J0_length_8abf5 : GoodIn wsJ0_indexOf_7cf53 (wsV RJ0 505 RJ0 yJ0_length_8abf5 wsJ0_length_8abf5) := goodIn_app (goodIn_of _ (by decide +kernel)) ggJ0_indexOf_7cf53_J0_length_8abf5
set_option maxRecDepth 20000 in
theorem ggJ0_indexOf_7cf53_J1_indexOf_4cfef : GoodIn wsJ0_indexOf_7cf53 wsJ1_indexOf_4cfef := goodIn_r _ [20, 21, 22, 23, 24, 25, 26, 27, 28, 29, 19, 30, 31, 32, 33] rfl (by decide +kernel)
set_option maxRecDepth 20000 in
theorem gJ0_indexOf_7cf53_J1_indexOf_4cfef : GoodIn wsJ0_indexOf_7cf53 (va_wsS RJ0 637 yJ1_indexOf_4cfef wsJ1_indexOf_4cfef) := goodIn_app (goodIn_of _ (by decide +kernel)) ggJ0_indexOf_7cf53_J1_indexOf_4cfef
set_option maxHeartbeats 4000000 in
set_option maxRecDepth 100000 in
theorem S_J0_indexOf_7cf53 (l : Launch) (D : va_G) (q v n : Nat) (bs : Nat → Int32) (hn : n ≤ 1000) (p0 : Int32) (s0 : Int) (p1 : Int32) (s1 : Int) (e0 : p0.toInt = s0) (e1 : p1.toInt = s1) (sz : Nat) : KiZ (zS q v n bs) l yJ0_indexOf_7cf53 wsJ0_indexOf_7cf53 3 88 D [.ref q, .int p0, .int p1] [] [] sz (fun (r : Int32) (_ : Unit) => ((-1) ≤ r.toInt ∧ r.toInt ≤ 999) ∧ (0 ≤ s0 ∧ s0 ≤ 255 ∧ s1 = 0 → zIx bs n (Int32.toInt8 p0).toInt32 r.toInt)) (fun (_ : Unit) => []) := by
  unfold KiZ
  refine gz_ofW (cc := cJ0_indexOf_7cf53) (lv := [(0, .ref q), (1, .int p0), (2, .int p1)]) (by decide +kernel) rfl (Nat.le_of_ble_eq_true rfl) rfl ?_
  intro p e s m args below meth c A Q hA hQ hZ F hr hnm
  have hts := F.2.2.2.2.1
  have w_0 : (Cond.fieldLink RJ0 9 "java/lang/String" "value" "[B").before args s = true := hts _ (List.mem_of_getElem? (i := 1) rfl)
  have rg0 : -2147483648 ≤ s0 ∧ s0 ≤ 2147483647 := e0 ▸ ti_rng p0
  have rg1 : -2147483648 ≤ s1 ∧ s1 ≤ 2147483647 := e1 ▸ ti_rng p1
  refine g_aload_n F 0 dJ0_indexOf_7cf53_0 rfl rfl ?_
  refine uz_call0Vi (k := 0) (n := 0) (b := q) (As := []) (st := []) F zS_st hZ (fun sz => S_J0_isLatin1_aae02 l D q v n bs hn   sz) (cwV 0 hts gJ0_indexOf_7cf53_J0_isLatin1_aae02 rfl rfl rfl (by decide +kernel) ⟨Nat.le_of_ble_eq_true rfl, Nat.le_of_ble_eq_true rfl⟩) hZ.1 rfl (Nat.le_of_ble_eq_true rfl) ⟨Nat.zero_le _, Nat.zero_le _⟩ dJ0_indexOf_7cf53_1 (fun r1 _ hw2 => ?_)
  have hw2 : r1.toInt = 1 := hw2
  refine g_fold 1 ((ti_eq rfl (show (1 : Int32).toInt = 1 from rfl)).mpr hw2) ?_
  refine v_if_eq F 23 dJ0_indexOf_7cf53_4 (by decide) 1 rfl (fun c3 => absurd c3 (by decide)) (fun c3 => ?_)
  refine g_aload_n F 0 dJ0_indexOf_7cf53_7 rfl rfl ?_
  refine uz_getf F hZ.2.2.1 w_0 dJ0_indexOf_7cf53_8 ?_
  refine g_iload_n F 1 dJ0_indexOf_7cf53_11 rfl rfl ?_
  refine g_iload_n F 2 dJ0_indexOf_7cf53_12 rfl rfl ?_
  refine g_aload_n F 0 dJ0_indexOf_7cf53_13 rfl rfl ?_
  refine uz_call0Vi (k := 0) (n := 0) (b := q) (As := []) (st := [.int p1, .int p0, .ref v]) F zS_st hZ (fun sz => S_J0_length_8abf5 l D q v n bs hn   sz) (cwV 0 hts gJ0_indexOf_7cf53_J0_length_8abf5 rfl rfl rfl (by decide +kernel) ⟨Nat.le_of_ble_eq_true rfl, Nat.le_of_ble_eq_true rfl⟩) hZ.1 rfl (Nat.le_of_ble_eq_true rfl) ⟨Nat.zero_le _, Nat.zero_le _⟩ dJ0_indexOf_7cf53_14 (fun r4 _ hw5 => ?_)
  have hw5 : r4.toInt = n := hw5
  refine uz_call0Si (k := 0) (n := 0) (As := [.ref v, .int p0, .int p1, .int r4]) (st := []) F zS_st hZ (fun sz => S_J1_indexOf_4cfef l D q v n bs hn p0 s0 p1 s1 r4 r4.toInt e0 e1 rfl sz) (va_cwS 4 hts gJ0_indexOf_7cf53_J1_indexOf_4cfef rfl rfl rfl (by decide +kernel) ⟨Nat.le_of_ble_eq_true rfl, Nat.le_of_ble_eq_true rfl⟩) rfl (Nat.le_of_ble_eq_true rfl) ⟨Nat.zero_le _, Nat.zero_le _⟩ dJ0_indexOf_7cf53_17 (fun r6 _ hw7 => ?_)
  have hz8 := hw7.2
  have hw7 := hw7.1
  refine g_goto F 36 dJ0_indexOf_7cf53_20 (by decide) ?_
  exact u_iret F hA hQ hr () ⟨(by have h9 := ti_rng r6; have h8 := ti_nat hn; omega), fun h => hz8 (by omega)⟩ rfl rfl dJ0_indexOf_7cf53_36

theorem dJ0_indexOf_0f7a4_0 : decode cJ0_indexOf_0f7a4 0 = .ok (.aload_n 0, 1) := by decide +kernel
theorem dJ0_indexOf_0f7a4_1 : decode cJ0_indexOf_0f7a4 1 = .ok (.iload_n 1, 1) := by decide +kernel
theorem dJ0_indexOf_0f7a4_2 : decode cJ0_indexOf_0f7a4 2 = .ok (.iconst 0, 1) := by decide +kernel
theorem dJ0_indexOf_0f7a4_3 : decode cJ0_indexOf_0f7a4 3 = .ok (.invokevirtual 633, 3) := by decide +kernel
theorem dJ0_indexOf_0f7a4_6 : decode cJ0_indexOf_0f7a4 6 = .ok (.ireturn, 1) := by decide +kernel
set_option maxRecDepth 20000 in
theorem ggJ0_indexOf_0f7a4_J0_indexOf_7cf53 : GoodIn wsJ0_indexOf_0f7a4 wsJ0_indexOf_7cf53 := goodIn_r _ [5, 6, 7, 8, 9, 4, 10, 11, 12, 13, 14, 15, 16, 17, 18, 19, 20, 21, 22, 23, 24, 25, 26, 27, 28, 29, 30, 31, 32, 33, 34, 35, 36, 37, 38, 39, 40, 41, 42, 43, 44, 45, 46, 47, 48, 49, 50, 51, 52, 53, 54, 55, 56, 57, 58, 59, 60, 61, 62, 63, 64, 65, 66, 67, 68, 69, 70, 71, 72, 73, 74, 75, 76, 77, 78, 79, 80, 81, 82, 83, 84, 85] rfl (by decide +kernel)
set_option maxRecDepth 20000 in
theorem gJ0_indexOf_0f7a4_J0_indexOf_7cf53 : GoodIn wsJ0_indexOf_0f7a4 (wsV RJ0 633 RJ0 yJ0_indexOf_7cf53 wsJ0_indexOf_7cf53) := goodIn_app (goodIn_of _ (by decide +kernel)) ggJ0_indexOf_0f7a4_J0_indexOf_7cf53
set_option maxHeartbeats 4000000 in
set_option maxRecDepth 100000 in
theorem S_J0_indexOf_0f7a4 (l : Launch) (D : va_G) (q v n : Nat) (bs : Nat → Int32) (hn : n ≤ 1000) (p0 : Int32) (s0 : Int) (e0 : p0.toInt = s0) (sz : Nat) : KiZ (zS q v n bs) l yJ0_indexOf_0f7a4 wsJ0_indexOf_0f7a4 4 110 D [.ref q, .int p0] [] [] sz (fun (r : Int32) (_ : Unit) => ((-1) ≤ r.toInt ∧ r.toInt ≤ 999) ∧ (0 ≤ s0 ∧ s0 ≤ 255 → zIx bs n (Int32.toInt8 p0).toInt32 r.toInt)) (fun (_ : Unit) => []) := by
  unfold KiZ
  refine gz_ofW (cc := cJ0_indexOf_0f7a4) (lv := [(0, .ref q), (1, .int p0)]) (by decide +kernel) rfl (Nat.le_of_ble_eq_true rfl) rfl ?_
  intro p e s m args below meth c A Q hA hQ hZ F hr hnm
  have hts := F.2.2.2.2.1
  have rg0 : -2147483648 ≤ s0 ∧ s0 ≤ 2147483647 := e0 ▸ ti_rng p0
  refine g_aload_n F 0 dJ0_indexOf_0f7a4_0 rfl rfl ?_
  refine g_iload_n F 1 dJ0_indexOf_0f7a4_1 rfl rfl ?_
  refine g_iconst F 0 dJ0_indexOf_0f7a4_2 (by decide) ?_
  refine uz_call0Vi (k := 0) (n := 0) (b := q) (As := [.int p0, .int 0]) (st := []) F zS_st hZ (fun sz => S_J0_indexOf_7cf53 l D q v n bs hn p0 s0 0 0 e0 rfl sz) (cwV 2 hts gJ0_indexOf_0f7a4_J0_indexOf_7cf53 rfl rfl rfl (by decide +kernel) ⟨Nat.le_of_ble_eq_true rfl, Nat.le_of_ble_eq_true rfl⟩) hZ.1 rfl (Nat.le_of_ble_eq_true rfl) ⟨Nat.zero_le _, Nat.zero_le _⟩ dJ0_indexOf_0f7a4_3 (fun r1 _ hw2 => ?_)
  have hz3 := hw2.2
  have hw2 := hw2.1
  exact u_iret F hA hQ hr () ⟨(by have h9 := ti_rng r1; have h8 := ti_nat hn; omega), fun h => hz3 (by omega)⟩ rfl rfl dJ0_indexOf_0f7a4_6
