theorem dX10_isWord_0 : decode cX10_isWord 0 = .ok (.aload_n 0, 1) := by decide +kernel
theorem dX10_isWord_1 : decode cX10_isWord 1 = .ok (.getfield 34, 3) := by decide +kernel
theorem dX10_isWord_4 : decode cX10_isWord 4 = .ok (.iconst 1, 1) := by decide +kernel
theorem dX10_isWord_5 : decode cX10_isWord 5 = .ok (.if_icmp .ne 19, 3) := by decide +kernel
theorem dX10_isWord_8 : decode cX10_isWord 8 = .ok (.aload_n 0, 1) := by decide +kernel
theorem dX10_isWord_9 : decode cX10_isWord 9 = .ok (.getfield 17, 3) := by decide +kernel
theorem dX10_isWord_12 : decode cX10_isWord 12 = .ok (.aload_n 0, 1) := by decide +kernel
theorem dX10_isWord_13 : decode cX10_isWord 13 = .ok (.getfield 28, 3) := by decide +kernel
theorem dX10_isWord_16 : decode cX10_isWord 16 = .ok (.isub, 1) := by decide +kernel
theorem dX10_isWord_17 : decode cX10_isWord 17 = .ok (.aload_n 1, 1) := by decide +kernel
theorem dX10_isWord_18 : decode cX10_isWord 18 = .ok (.invokevirtual 57, 3) := by decide +kernel
theorem dX10_isWord_21 : decode cX10_isWord 21 = .ok (.if_icmp .eq 5, 3) := by decide +kernel
theorem dX10_isWord_24 : decode cX10_isWord 24 = .ok (.iconst 0, 1) := by decide +kernel
theorem dX10_isWord_25 : decode cX10_isWord 25 = .ok (.ireturn, 1) := by decide +kernel
theorem dX10_isWord_26 : decode cX10_isWord 26 = .ok (.iconst 0, 1) := by decide +kernel
theorem dX10_isWord_27 : decode cX10_isWord 27 = .ok (.istore_n 2, 1) := by decide +kernel
theorem dX10_isWord_28 : decode cX10_isWord 28 = .ok (.iload_n 2, 1) := by decide +kernel
theorem dX10_isWord_29 : decode cX10_isWord 29 = .ok (.aload_n 1, 1) := by decide +kernel
theorem dX10_isWord_30 : decode cX10_isWord 30 = .ok (.invokevirtual 57, 3) := by decide +kernel
theorem dX10_isWord_33 : decode cX10_isWord 33 = .ok (.if_icmp .ge 29, 3) := by decide +kernel
theorem dX10_isWord_36 : decode cX10_isWord 36 = .ok (.aload_n 0, 1) := by decide +kernel
theorem dX10_isWord_37 : decode cX10_isWord 37 = .ok (.aload_n 0, 1) := by decide +kernel
theorem dX10_isWord_38 : decode cX10_isWord 38 = .ok (.getfield 28, 3) := by decide +kernel
theorem dX10_isWord_41 : decode cX10_isWord 41 = .ok (.iload_n 2, 1) := by decide +kernel
theorem dX10_isWord_42 : decode cX10_isWord 42 = .ok (.iadd, 1) := by decide +kernel
theorem dX10_isWord_43 : decode cX10_isWord 43 = .ok (.invokevirtual 20, 3) := by decide +kernel
theorem dX10_isWord_46 : decode cX10_isWord 46 = .ok (.aload_n 1, 1) := by decide +kernel
theorem dX10_isWord_47 : decode cX10_isWord 47 = .ok (.iload_n 2, 1) := by decide +kernel
theorem dX10_isWord_48 : decode cX10_isWord 48 = .ok (.invokevirtual 60, 3) := by decide +kernel
theorem dX10_isWord_51 : decode cX10_isWord 51 = .ok (.if_icmp .eq 5, 3) := by decide +kernel
theorem dX10_isWord_54 : decode cX10_isWord 54 = .ok (.iconst 0, 1) := by decide +kernel
theorem dX10_isWord_55 : decode cX10_isWord 55 = .ok (.ireturn, 1) := by decide +kernel
theorem dX10_isWord_56 : decode cX10_isWord 56 = .ok (.iinc 2 1, 3) := by decide +kernel
theorem dX10_isWord_59 : decode cX10_isWord 59 = .ok (.goto (-31), 3) := by decide +kernel
theorem dX10_isWord_62 : decode cX10_isWord 62 = .ok (.iconst 1, 1) := by decide +kernel
theorem dX10_isWord_63 : decode cX10_isWord 63 = .ok (.ireturn, 1) := by decide +kernel
set_option maxRecDepth 20000 in
theorem ggX10_isWord_J0_charAt_5068e : GoodIn wsX10_isWord wsJ0_charAt_5068e := goodIn_r _ [26, 9, 27, 28, 29, 7, 30, 14, 15, 31, 32, 33, 34, 35, 36, 37, 38, 39, 40, 41, 42, 43, 44, 45, 46, 47, 48, 49, 50, 51, 52, 53, 54, 55, 56, 57, 58, 59] rfl (by decide +kernel)
set_option maxRecDepth 20000 in
theorem gX10_isWord_J0_charAt_5068e : GoodIn wsX10_isWord (wsV RX10 60 RJ0 yJ0_charAt_5068e wsJ0_charAt_5068e) := goodIn_app (goodIn_of _ (by decide +kernel)) ggX10_isWord_J0_charAt_5068e
set_option maxRecDepth 20000 in
theorem ggX10_isWord_J0_length_8abf5 : GoodIn wsX10_isWord wsJ0_length_8abf5 := goodIn_r _ [8, 9, 10, 11, 12, 7, 13, 14, 15] rfl (by decide +kernel)
set_option maxRecDepth 20000 in
theorem gX10_isWord_J0_length_8abf5 : GoodIn wsX10_isWord (wsV RX10 57 RJ0 yJ0_length_8abf5 wsJ0_length_8abf5) := goodIn_app (goodIn_of _ (by decide +kernel)) ggX10_isWord_J0_length_8abf5
set_option maxRecDepth 20000 in
theorem ggX10_isWord_X10_byteAt : GoodIn wsX10_isWord wsX10_byteAt := goodIn_r _ [20, 21, 22, 60, 61, 62, 63, 64, 65] rfl (by decide +kernel)
set_option maxRecDepth 20000 in
theorem gX10_isWord_X10_byteAt : GoodIn wsX10_isWord (wsV RX10 20 RX10 yX10_byteAt wsX10_byteAt) := goodIn_app (goodIn_of _ (by decide +kernel)) ggX10_isWord_X10_byteAt
set_option maxHeartbeats 4000000 in
set_option maxRecDepth 100000 in
theorem S_X10_isWord (l : Launch) (D : va_G) (K : Nat → ClassId) (a : Nat → Nat) (G : gS) (q v n : Nat) (bs : Nat → Int32) (hn : n ≤ 1000) (hI : xI G) (sz : Nat) : KiZ (zS q v n bs) l yX10_isWord wsX10_isWord 5 125 D [.ref (a 1), .ref q] (xW K a G) (tK K) sz (fun (r : Int32) (_ : Unit) => 0 ≤ r.toInt ∧ r.toInt ≤ 1) (fun (_ : Unit) => (xW K a G)) := by
  unfold KiZ
  refine gz_ofW (cc := cX10_isWord) (lv := [(0, .ref (a 1)), (1, .ref q)]) (by decide) rfl (Nat.le_of_ble_eq_true rfl) rfl ?_
  intro p e s m args below meth c A Q hA hQ hZ F hr hnm
  have hts := F.2.2.2.2.1
  have w_0 : (Cond.fieldLink RX10 28 "QuietCut$Tape" "place" "I").before args s = true := hts _ (List.mem_of_getElem? (i := 3) rfl)
  have i_X10 : ∀ w ∈ u_ws RX10 TX10 6, w ∈ wsX10_isWord := fun _ h => List.mem_cons_of_mem _ (List.mem_append_right _ h)
  have w_1 : (Cond.fieldLink RX10 34 "QuietCut$Tape" "kind" "I").before args s = true := hts _ (List.mem_of_getElem? (i := 1) rfl)
  have w_2 : (Cond.fieldLink RX10 17 "QuietCut$Tape" "at" "I").before args s = true := hts _ (List.mem_of_getElem? (i := 2) rfl)
  have b1 : (0 : Int) ≤ (G 1 1).toInt ∧ (G 1 1).toInt ≤ 1000 := hI 1 1
  have b2 : (0 : Int) ≤ (G 1 2).toInt ∧ (G 1 2).toInt ≤ 1000 := hI 1 2
  have b3 : (0 : Int) ≤ (G 1 4).toInt ∧ (G 1 4).toInt ≤ 1000 := hI 1 4
  have J_28 : ∀ (fuel : Nat) (x28_2 : Int32), (2147483647 - x28_2.toInt).toNat < fuel → (0 ≤ x28_2.toInt ∧ x28_2.toInt ≤ 1000) → gG p l e (gR 5 0 0 125) s m args below meth c D A 3 Q 0 0 (xW K a G) (tK K) [(0, .ref (a 1)), (1, .ref q), (2, .int x28_2)] 28 [] := by
    intro fuel
    induction fuel with
    | zero => intro x28_2 hm; exact absurd hm (Nat.not_lt_zero _)
    | succ fuel_28 ih_28 =>
      intro x28_2 hm_28 h28_2
      refine g_iload_n F 2 dX10_isWord_28 rfl rfl ?_
      refine g_aload_n F 1 dX10_isWord_29 rfl rfl ?_
      refine uz_call0Vi (k := 0) (n := 0) (b := q) (As := []) (st := [.int x28_2]) F zS_st hZ (fun sz => S_J0_length_8abf5 l D q v n bs hn   sz) (cwV 0 hts gX10_isWord_J0_length_8abf5 rfl rfl rfl (by decide +kernel) ⟨Nat.le_of_ble_eq_true rfl, Nat.le_of_ble_eq_true rfl⟩) hZ.1 rfl (Nat.le_of_ble_eq_true rfl) ⟨Nat.zero_le _, Nat.zero_le _⟩ dX10_isWord_30 (fun r4 _ hw5 => ?_)
      have hw5 : r4.toInt = (n : Int) := hw5
      refine v_icmp_ge F 62 dX10_isWord_33 (by decide) x28_2.toInt r4.toInt rfl rfl (fun c6 => ?_) (fun c6 => ?_)
      · refine g_iconst F 1 dX10_isWord_62 (by decide) ?_
        exact u_zret F hA hQ hr rfl () ((by decide)) rfl rfl dX10_isWord_63
      · refine g_aload_n F 0 dX10_isWord_36 rfl rfl ?_
        refine g_aload_n F 0 dX10_isWord_37 rfl rfl ?_
        refine xg_1_4 F i_X10 w_0 dX10_isWord_38 (G 1 4) (rfl) ?_
        refine g_iload_n F 2 dX10_isWord_41 rfl rfl ?_
        refine u_iadd F dX10_isWord_42 (G 1 4).toInt x28_2.toInt rfl rfl (by omega) (by omega) (fun y7 ey7 => ?_)
        refine u_callVi (k := 0) (n := 0) (b := a 1) (As := [.int y7]) (st := []) F (fun sz => S_X10_byteAt l D K a G y7 y7.toInt rfl hI sz) (cwV 1 hts gX10_isWord_X10_byteAt rfl rfl rfl (by decide +kernel) ⟨Nat.le_of_ble_eq_true rfl, Nat.le_of_ble_eq_true rfl⟩) rfl 1 xc_1 rfl (Nat.le_of_ble_eq_true rfl) ⟨Nat.zero_le _, Nat.zero_le _⟩ dX10_isWord_43 (fun r8 _ hw9 => ?_)
        refine g_aload_n F 1 dX10_isWord_46 rfl rfl ?_
        refine g_iload_n F 2 dX10_isWord_47 rfl rfl ?_
        refine uz_call0Vi (k := 0) (n := 0) (b := q) (As := [.int x28_2]) (st := [.int r8]) F zS_st hZ (fun sz => S_J0_charAt_5068e l D q v n bs hn x28_2 x28_2.toInt rfl (by omega) (by omega) sz) (cwV 1 hts gX10_isWord_J0_charAt_5068e rfl rfl rfl (by decide +kernel) ⟨Nat.le_of_ble_eq_true rfl, Nat.le_of_ble_eq_true rfl⟩) hZ.1 rfl (Nat.le_of_ble_eq_true rfl) ⟨Nat.zero_le _, Nat.zero_le _⟩ dX10_isWord_48 (fun r11 _ hw12 => ?_)
        refine v_icmp_eq F 56 dX10_isWord_51 (by decide) r8.toInt r11.toInt rfl rfl (fun c13 => ?_) (fun c13 => ?_)
        · refine u_iinc F (fun v_ => [(2, .int v_), (0, .ref (a 1)), (1, .ref q)]) dX10_isWord_56 (j := 2) rfl x28_2.toInt 1 rfl rfl (by omega) (by omega) (by decide) (fun _ => rfl) (fun y14 ey14 => ?_)
          refine g_goto F 28 dX10_isWord_59 (by decide) ?_
          refine g_locals [(0, .ref (a 1)), (1, .ref q), (2, .int y14)] [1, 2, 0] rfl ?_
          exact ih_28 y14 (by omega) (by have h9 := ti_rng y14; omega)
        · refine g_iconst F 0 dX10_isWord_54 (by decide) ?_
          exact u_zret F hA hQ hr rfl () ((by decide)) rfl rfl dX10_isWord_55
  refine g_aload_n F 0 dX10_isWord_0 rfl rfl ?_
  refine xg_1_3 F i_X10 w_1 dX10_isWord_1 (G 1 3) (rfl) ?_
  refine g_iconst F 1 dX10_isWord_4 (by decide) ?_
  have b15 : (0 : Int) ≤ (G 1 3).toInt ∧ (G 1 3).toInt ≤ 4 := hI 1 3
  refine v_icmp_ne F 24 dX10_isWord_5 (by decide) (G 1 3).toInt 1 rfl rfl (fun c16 => ?_) (fun c16 => ?_)
  · refine g_iconst F 0 dX10_isWord_24 (by decide) ?_
    exact u_zret F hA hQ hr rfl () ((by decide)) rfl rfl dX10_isWord_25
  · refine g_aload_n F 0 dX10_isWord_8 rfl rfl ?_
    refine xg_1_2 F i_X10 w_2 dX10_isWord_9 (G 1 2) (rfl) ?_
    refine g_aload_n F 0 dX10_isWord_12 rfl rfl ?_
    refine xg_1_4 F i_X10 w_0 dX10_isWord_13 (G 1 4) (rfl) ?_
    refine u_isub F dX10_isWord_16 (G 1 2).toInt (G 1 4).toInt rfl rfl (by omega) (by omega) (fun y17 ey17 => ?_)
    refine g_aload_n F 1 dX10_isWord_17 rfl rfl ?_
    refine uz_call0Vi (k := 0) (n := 0) (b := q) (As := []) (st := [.int y17]) F zS_st hZ (fun sz => S_J0_length_8abf5 l D q v n bs hn   sz) (cwV 0 hts gX10_isWord_J0_length_8abf5 rfl rfl rfl (by decide +kernel) ⟨Nat.le_of_ble_eq_true rfl, Nat.le_of_ble_eq_true rfl⟩) hZ.1 rfl (Nat.le_of_ble_eq_true rfl) ⟨Nat.zero_le _, Nat.zero_le _⟩ dX10_isWord_18 (fun r18 _ hw19 => ?_)
    have hw19 : r18.toInt = (n : Int) := hw19
    refine v_icmp_eq F 26 dX10_isWord_21 (by decide) y17.toInt r18.toInt rfl rfl (fun c20 => ?_) (fun c20 => ?_)
    · refine g_iconst F 0 dX10_isWord_26 (by decide) ?_
      refine g_istore_n F [(2, .int 0), (0, .ref (a 1)), (1, .ref q)] dX10_isWord_27 rfl (by decide) rfl ?_
      refine g_locals [(0, .ref (a 1)), (1, .ref q), (2, .int 0)] [1, 2, 0] rfl ?_
      exact J_28 _ 0 (Nat.lt_succ_self _) (by decide)
    · refine g_iconst F 0 dX10_isWord_24 (by decide) ?_
      exact u_zret F hA hQ hr rfl () ((by decide)) rfl rfl dX10_isWord_25

theorem dX10_readWord_0 : decode cX10_readWord 0 = .ok (.aload_n 0, 1) := by decide +kernel
theorem dX10_readWord_1 : decode cX10_readWord 1 = .ok (.getfield 17, 3) := by decide +kernel
theorem dX10_readWord_4 : decode cX10_readWord 4 = .ok (.aload_n 0, 1) := by decide +kernel
theorem dX10_readWord_5 : decode cX10_readWord 5 = .ok (.getfield 13, 3) := by decide +kernel
theorem dX10_readWord_8 : decode cX10_readWord 8 = .ok (.if_icmp .ge 30, 3) := by decide +kernel
theorem dX10_readWord_11 : decode cX10_readWord 11 = .ok (.aload_n 0, 1) := by decide +kernel
theorem dX10_readWord_12 : decode cX10_readWord 12 = .ok (.aload_n 0, 1) := by decide +kernel
theorem dX10_readWord_13 : decode cX10_readWord 13 = .ok (.getfield 17, 3) := by decide +kernel
theorem dX10_readWord_16 : decode cX10_readWord 16 = .ok (.invokevirtual 20, 3) := by decide +kernel
theorem dX10_readWord_19 : decode cX10_readWord 19 = .ok (.invokestatic 37, 3) := by decide +kernel
theorem dX10_readWord_22 : decode cX10_readWord 22 = .ok (.ifCond .eq 16, 3) := by decide +kernel
theorem dX10_readWord_25 : decode cX10_readWord 25 = .ok (.aload_n 0, 1) := by decide +kernel
theorem dX10_readWord_26 : decode cX10_readWord 26 = .ok (.dup, 1) := by decide +kernel
theorem dX10_readWord_27 : decode cX10_readWord 27 = .ok (.getfield 17, 3) := by decide +kernel
theorem dX10_readWord_30 : decode cX10_readWord 30 = .ok (.iconst 1, 1) := by decide +kernel
theorem dX10_readWord_31 : decode cX10_readWord 31 = .ok (.iadd, 1) := by decide +kernel
theorem dX10_readWord_32 : decode cX10_readWord 32 = .ok (.putfield 17, 3) := by decide +kernel
theorem dX10_readWord_35 : decode cX10_readWord 35 = .ok (.goto (-35), 3) := by decide +kernel
theorem dX10_readWord_38 : decode cX10_readWord 38 = .ok (.aload_n 0, 1) := by decide +kernel
theorem dX10_readWord_39 : decode cX10_readWord 39 = .ok (.aload_n 0, 1) := by decide +kernel
theorem dX10_readWord_40 : decode cX10_readWord 40 = .ok (.getfield 17, 3) := by decide +kernel
theorem dX10_readWord_43 : decode cX10_readWord 43 = .ok (.aload_n 0, 1) := by decide +kernel
theorem dX10_readWord_44 : decode cX10_readWord 44 = .ok (.getfield 28, 3) := by decide +kernel
theorem dX10_readWord_47 : decode cX10_readWord 47 = .ok (.isub, 1) := by decide +kernel
theorem dX10_readWord_48 : decode cX10_readWord 48 = .ok (.bipush 8, 2) := by decide +kernel
theorem dX10_readWord_50 : decode cX10_readWord 50 = .ok (.if_icmp .gt 7, 3) := by decide +kernel
theorem dX10_readWord_53 : decode cX10_readWord 53 = .ok (.iconst 1, 1) := by decide +kernel
theorem dX10_readWord_54 : decode cX10_readWord 54 = .ok (.goto 4, 3) := by decide +kernel
theorem dX10_readWord_57 : decode cX10_readWord 57 = .ok (.iconst 4, 1) := by decide +kernel
theorem dX10_readWord_58 : decode cX10_readWord 58 = .ok (.putfield 34, 3) := by decide +kernel
theorem dX10_readWord_61 : decode cX10_readWord 61 = .ok (.aload_n 0, 1) := by decide +kernel
theorem dX10_readWord_62 : decode cX10_readWord 62 = .ok (.aload_n 0, 1) := by decide +kernel
theorem dX10_readWord_63 : decode cX10_readWord 63 = .ok (.getfield 17, 3) := by decide +kernel
theorem dX10_readWord_66 : decode cX10_readWord 66 = .ok (.aload_n 0, 1) := by decide +kernel
theorem dX10_readWord_67 : decode cX10_readWord 67 = .ok (.getfield 28, 3) := by decide +kernel
theorem dX10_readWord_70 : decode cX10_readWord 70 = .ok (.isub, 1) := by decide +kernel
theorem dX10_readWord_71 : decode cX10_readWord 71 = .ok (.iconst 1, 1) := by decide +kernel
theorem dX10_readWord_72 : decode cX10_readWord 72 = .ok (.if_icmp .ne 7, 3) := by decide +kernel
theorem dX10_readWord_75 : decode cX10_readWord 75 = .ok (.iload_n 1, 1) := by decide +kernel
theorem dX10_readWord_76 : decode cX10_readWord 76 = .ok (.goto 4, 3) := by decide +kernel
theorem dX10_readWord_79 : decode cX10_readWord 79 = .ok (.iconst 0, 1) := by decide +kernel
theorem dX10_readWord_80 : decode cX10_readWord 80 = .ok (.putfield 31, 3) := by decide +kernel
theorem dX10_readWord_83 : decode cX10_readWord 83 = .ok (.return_, 1) := by decide +kernel
set_option maxRecDepth 20000 in
theorem ggX10_readWord_X10_byteAt : GoodIn wsX10_readWord wsX10_byteAt := goodIn_r _ [10, 2, 11, 15, 16, 17, 18, 19, 20] rfl (by decide +kernel)
set_option maxRecDepth 20000 in
theorem gX10_readWord_X10_byteAt : GoodIn wsX10_readWord (wsV RX10 20 RX10 yX10_byteAt wsX10_byteAt) := goodIn_app (goodIn_of _ (by decide +kernel)) ggX10_readWord_X10_byteAt
set_option maxRecDepth 20000 in
theorem ggX10_readWord_X10_isLetter : GoodIn wsX10_readWord wsX10_isLetter := goodIn_r _ [14] rfl (by decide +kernel)
set_option maxRecDepth 20000 in
theorem gX10_readWord_X10_isLetter : GoodIn wsX10_readWord (va_wsS RX10 37 yX10_isLetter wsX10_isLetter) := goodIn_app (goodIn_of _ (by decide +kernel)) ggX10_readWord_X10_isLetter
set_option maxHeartbeats 4000000 in
set_option maxRecDepth 100000 in
theorem S_X10_readWord (l : Launch) (D : va_G) (K : Nat → ClassId) (a : Nat → Nat) (G : gS) (p0 : Int32) (s0 : Int) (e0 : p0.toInt = s0) (hI : xI G) (sz : Nat) : Kv l yX10_readWord wsX10_readWord 2 61 0 0 D [.ref (a 1), .int p0] (xW K a G) (tK K) sz (fun (G' : gS) => (xI G') ∧ (gu_un xcd [103, 104, 106] G G')) (fun (G' : gS) => (xW K a G')) (fun _ => (tK K)) := by
  unfold Kv
  refine g_ofW (cc := cX10_readWord) (lv := [(0, .ref (a 1)), (1, .int p0)]) (by decide) rfl (Nat.le_of_ble_eq_true rfl) rfl ?_
  intro p e s m args below meth c A Q hA hQ F hr hnm
  have hts := F.2.2.2.2.1
  have w_0 : (Cond.fieldLink RX10 34 "QuietCut$Tape" "kind" "I").before args s = true := hts _ (List.mem_of_getElem? (i := 4) rfl)
  have i_X10 : ∀ w ∈ u_ws RX10 TX10 6, w ∈ wsX10_readWord := fun _ h => List.mem_cons_of_mem _ (List.mem_append_right _ h)
  have w_1 : (Cond.fieldLink RX10 17 "QuietCut$Tape" "at" "I").before args s = true := hts _ (List.mem_of_getElem? (i := 1) rfl)
  have w_2 : (Cond.fieldLink RX10 28 "QuietCut$Tape" "place" "I").before args s = true := hts _ (List.mem_of_getElem? (i := 3) rfl)
  have w_3 : (Cond.fieldLink RX10 31 "QuietCut$Tape" "value" "I").before args s = true := hts _ (List.mem_of_getElem? (i := 5) rfl)
  have w_4 : (Cond.fieldLink RX10 13 "QuietCut$Tape" "length" "I").before args s = true := hts _ (List.mem_of_getElem? (i := 2) rfl)
  have rg0 : -2147483648 ≤ s0 ∧ s0 ≤ 2147483647 := e0 ▸ ti_rng p0
  have b1 : (0 : Int) ≤ (G 1 1).toInt ∧ (G 1 1).toInt ≤ 1000 := hI 1 1
  have b2 : (0 : Int) ≤ (G 1 2).toInt ∧ (G 1 2).toInt ≤ 1000 := hI 1 2
  have b3 : (0 : Int) ≤ (G 1 4).toInt ∧ (G 1 4).toInt ≤ 1000 := hI 1 4
  have J_58 : ∀  (z58_0 : Int32) (Gj58 : gS), (1 ≤ z58_0.toInt ∧ z58_0.toInt ≤ 4) → (xI Gj58) → (gu_un xcd [103] G Gj58) → gG p l e (gR 2 0 0 61) s m args below meth c D A 2 Q 0 0 (xW K a Gj58) (tK K) [(0, .ref (a 1)), (1, .int p0)] 58 [.int z58_0, .ref (a 1)] := by
    intro z58_0 Gj58 g58_0 jI58 jU58
    refine xp_1_3 F i_X10 w_0 dX10_readWord_58 ?_
    refine g_aload_n F 0 dX10_readWord_61 rfl rfl ?_
    refine g_aload_n F 0 dX10_readWord_62 rfl rfl ?_
    refine xg_1_2 F i_X10 w_1 dX10_readWord_63 (Gj58 1 2) (rfl) ?_
    refine g_aload_n F 0 dX10_readWord_66 rfl rfl ?_
    refine xg_1_4 F i_X10 w_2 dX10_readWord_67 (G 1 4) (jU58 1 4 (by decide)) ?_
    have b5 : (0 : Int) ≤ (Gj58 1 2).toInt ∧ (Gj58 1 2).toInt ≤ 1000 := jI58 1 2
    refine u_isub F dX10_readWord_70 (Gj58 1 2).toInt (G 1 4).toInt rfl rfl (by omega) (by omega) (fun y4 ey4 => ?_)
    refine g_iconst F 1 dX10_readWord_71 (by decide) ?_
    refine v_icmp_ne F 79 dX10_readWord_72 (by decide) y4.toInt 1 rfl rfl (fun c6 => ?_) (fun c6 => ?_)
    · refine g_iconst F 0 dX10_readWord_79 (by decide) ?_
      refine xp_1_5 F i_X10 w_3 dX10_readWord_80 ?_
      exact u_vret F hA hQ hr (gu_up (gu_up Gj58 1 3 z58_0) 1 5 0) (⟨(gu_I.up (j := 1) (k := 5) (v := 0) (gu_I.up (j := 1) (k := 3) (v := z58_0) jI58 (show (0 : Int) ≤ Int32.toInt z58_0 by omega) (show Int32.toInt z58_0 ≤ 4 by omega)) (ti_rng _).1 (ti_rng _).2), (gu_un.up (j := 1) (k := 5) (v := 0) (gu_un.up (j := 1) (k := 3) (v := z58_0) (gu_un.tr gu_un.rf (gu_un.su jU58 rfl)) (show (104 : Nat) ∈ ([103, 104, 106] : List Nat) by decide)) (show (106 : Nat) ∈ ([103, 104, 106] : List Nat) by decide))⟩) rfl rfl dX10_readWord_83
    · refine g_iload_n F 1 dX10_readWord_75 rfl rfl ?_
      refine g_goto F 80 dX10_readWord_76 (by decide) ?_
      refine xp_1_5 F i_X10 w_3 dX10_readWord_80 ?_
      exact u_vret F hA hQ hr (gu_up (gu_up Gj58 1 3 z58_0) 1 5 p0) (⟨(gu_I.up (j := 1) (k := 5) (v := p0) (gu_I.up (j := 1) (k := 3) (v := z58_0) jI58 (show (0 : Int) ≤ Int32.toInt z58_0 by omega) (show Int32.toInt z58_0 ≤ 4 by omega)) (ti_rng _).1 (ti_rng _).2), (gu_un.up (j := 1) (k := 5) (v := p0) (gu_un.up (j := 1) (k := 3) (v := z58_0) (gu_un.tr gu_un.rf (gu_un.su jU58 rfl)) (show (104 : Nat) ∈ ([103, 104, 106] : List Nat) by decide)) (show (106 : Nat) ∈ ([103, 104, 106] : List Nat) by decide))⟩) rfl rfl dX10_readWord_83
  have J_38 : ∀  (Gj38 : gS), (xI Gj38) → (gu_un xcd [103] G Gj38) → gG p l e (gR 2 0 0 61) s m args below meth c D A 2 Q 0 0 (xW K a Gj38) (tK K) [(0, .ref (a 1)), (1, .int p0)] 38 [] := by
    intro Gj38 jI38 jU38
    refine g_aload_n F 0 dX10_readWord_38 rfl rfl ?_
    refine g_aload_n F 0 dX10_readWord_39 rfl rfl ?_
    refine xg_1_2 F i_X10 w_1 dX10_readWord_40 (Gj38 1 2) (rfl) ?_
    refine g_aload_n F 0 dX10_readWord_43 rfl rfl ?_
    refine xg_1_4 F i_X10 w_2 dX10_readWord_44 (G 1 4) (jU38 1 4 (by decide)) ?_
    have b8 : (0 : Int) ≤ (Gj38 1 2).toInt ∧ (Gj38 1 2).toInt ≤ 1000 := jI38 1 2
    refine u_isub F dX10_readWord_47 (Gj38 1 2).toInt (G 1 4).toInt rfl rfl (by omega) (by omega) (fun y7 ey7 => ?_)
    refine g_bipush F 8 dX10_readWord_48 (by decide) ?_
    refine v_icmp_gt F 57 dX10_readWord_50 (by decide) y7.toInt 8 rfl rfl (fun c9 => ?_) (fun c9 => ?_)
    · refine g_iconst F 4 dX10_readWord_57 (by decide) ?_
      exact J_58 4 Gj38 (by decide) jI38 (gu_un.tr gu_un.rf (gu_un.su jU38 rfl))
    · refine g_iconst F 1 dX10_readWord_53 (by decide) ?_
      refine g_goto F 58 dX10_readWord_54 (by decide) ?_
      exact J_58 1 Gj38 (by decide) jI38 (gu_un.tr gu_un.rf (gu_un.su jU38 rfl))
  have J_0 : ∀ (fuel : Nat) (Gj0 : gS), (2147483647 - (Gj0 1 2).toInt).toNat < fuel → (xI Gj0) → (gu_un xcd [103] G Gj0) → gG p l e (gR 2 0 0 61) s m args below meth c D A 2 Q 0 0 (xW K a Gj0) (tK K) [(0, .ref (a 1)), (1, .int p0)] 0 [] := by
    intro fuel
    induction fuel with
    | zero => intro Gj0 hm; exact absurd hm (Nat.not_lt_zero _)
    | succ fuel_0 ih_0 =>
      intro Gj0 hm_0 jI0 jU0
      refine g_aload_n F 0 dX10_readWord_0 rfl rfl ?_
      refine xg_1_2 F i_X10 w_1 dX10_readWord_1 (Gj0 1 2) (rfl) ?_
      refine g_aload_n F 0 dX10_readWord_4 rfl rfl ?_
      refine xg_1_1 F i_X10 w_4 dX10_readWord_5 (G 1 1) (jU0 1 1 (by decide)) ?_
      have b10 : (0 : Int) ≤ (Gj0 1 2).toInt ∧ (Gj0 1 2).toInt ≤ 1000 := jI0 1 2
      refine v_icmp_ge F 38 dX10_readWord_8 (by decide) (Gj0 1 2).toInt (G 1 1).toInt rfl rfl (fun c11 => ?_) (fun c11 => ?_)
      · exact J_38 Gj0 jI0 (gu_un.tr gu_un.rf (gu_un.su jU0 rfl))
      · refine g_aload_n F 0 dX10_readWord_11 rfl rfl ?_
        refine g_aload_n F 0 dX10_readWord_12 rfl rfl ?_
        refine xg_1_2 F i_X10 w_1 dX10_readWord_13 (Gj0 1 2) (rfl) ?_
        refine u_callVi (k := 0) (n := 0) (b := a 1) (As := [.int (Gj0 1 2)]) (st := []) F (fun sz => S_X10_byteAt l D K a Gj0 (Gj0 1 2) (Gj0 1 2).toInt rfl jI0 sz) (cwV 1 hts gX10_readWord_X10_byteAt rfl rfl rfl (by decide +kernel) ⟨Nat.le_of_ble_eq_true rfl, Nat.le_of_ble_eq_true rfl⟩) rfl 1 xc_1 rfl (Nat.le_of_ble_eq_true rfl) ⟨Nat.zero_le _, Nat.zero_le _⟩ dX10_readWord_16 (fun r12 _ hw13 => ?_)
        refine u_call0 (k := 0) (n := 0) (As := [.int r12]) (st := []) F (fun sz => S_X10_isLetter l D r12 r12.toInt rfl sz) (va_cwS 1 hts gX10_readWord_X10_isLetter rfl rfl rfl (by decide +kernel) ⟨Nat.le_of_ble_eq_true rfl, Nat.le_of_ble_eq_true rfl⟩) rfl (Nat.le_of_ble_eq_true rfl) ⟨Nat.zero_le _, Nat.zero_le _⟩ dX10_readWord_19 (fun r15 _ hw16 => ?_)
        rcases hw16 with ⟨rfl, q18⟩ | ⟨rfl, q19⟩
        · refine v_if_eq F 38 dX10_readWord_22 (by decide) 1 rfl (fun c20 => absurd c20 (by decide)) (fun c20 => ?_)
          refine g_aload_n F 0 dX10_readWord_25 rfl rfl ?_
          refine g_dup F dX10_readWord_26 rfl ?_
          refine xg_1_2 F i_X10 w_1 dX10_readWord_27 (Gj0 1 2) (rfl) ?_
          refine g_iconst F 1 dX10_readWord_30 (by decide) ?_
          refine u_iadd F dX10_readWord_31 (Gj0 1 2).toInt 1 rfl rfl (by omega) (by omega) (fun y21 ey21 => ?_)
          refine xp_1_2 F i_X10 w_1 dX10_readWord_32 ?_
          refine g_goto F 0 dX10_readWord_35 (by decide) ?_
          exact ih_0 (gu_up Gj0 1 2 y21) (by have e9_1_2 : (gu_up Gj0 1 2 y21) 1 2 = y21 := rfl; (try simp only [e9_1_2, true_and, and_true]) <;> omega) (gu_I.up (j := 1) (k := 2) (v := y21) jI0 (show (0 : Int) ≤ Int32.toInt y21 by omega) (show Int32.toInt y21 ≤ 1000 by omega)) (gu_un.up (j := 1) (k := 2) (v := y21) (gu_un.tr gu_un.rf (gu_un.su jU0 rfl)) (show (103 : Nat) ∈ ([103] : List Nat) by decide))
        · refine v_if_eq F 38 dX10_readWord_22 (by decide) 0 rfl (fun c22 => ?_) (fun c22 => absurd c22 (by decide))
          exact J_38 Gj0 jI0 (gu_un.tr gu_un.rf (gu_un.su jU0 rfl))
  exact J_0 _ G (Nat.lt_succ_self _) hI gu_un.rf

theorem dX10_readNumber_0 : decode cX10_readNumber 0 = .ok (.aload_n 0, 1) := by decide +kernel
theorem dX10_readNumber_1 : decode cX10_readNumber 1 = .ok (.getfield 17, 3) := by decide +kernel
theorem dX10_readNumber_4 : decode cX10_readNumber 4 = .ok (.aload_n 0, 1) := by decide +kernel
theorem dX10_readNumber_5 : decode cX10_readNumber 5 = .ok (.getfield 13, 3) := by decide +kernel
theorem dX10_readNumber_8 : decode cX10_readNumber 8 = .ok (.if_icmp .ge 53, 3) := by decide +kernel
theorem dX10_readNumber_11 : decode cX10_readNumber 11 = .ok (.aload_n 0, 1) := by decide +kernel
theorem dX10_readNumber_12 : decode cX10_readNumber 12 = .ok (.aload_n 0, 1) := by decide +kernel
theorem dX10_readNumber_13 : decode cX10_readNumber 13 = .ok (.getfield 17, 3) := by decide +kernel
theorem dX10_readNumber_16 : decode cX10_readNumber 16 = .ok (.invokevirtual 20, 3) := by decide +kernel
theorem dX10_readNumber_19 : decode cX10_readNumber 19 = .ok (.invokestatic 44, 3) := by decide +kernel
theorem dX10_readNumber_22 : decode cX10_readNumber 22 = .ok (.ifCond .eq 39, 3) := by decide +kernel
theorem dX10_readNumber_25 : decode cX10_readNumber 25 = .ok (.aload_n 0, 1) := by decide +kernel
theorem dX10_readNumber_26 : decode cX10_readNumber 26 = .ok (.aload_n 0, 1) := by decide +kernel
theorem dX10_readNumber_27 : decode cX10_readNumber 27 = .ok (.getfield 31, 3) := by decide +kernel
theorem dX10_readNumber_30 : decode cX10_readNumber 30 = .ok (.bipush 10, 2) := by decide +kernel
theorem dX10_readNumber_32 : decode cX10_readNumber 32 = .ok (.imul, 1) := by decide +kernel
theorem dX10_readNumber_33 : decode cX10_readNumber 33 = .ok (.aload_n 0, 1) := by decide +kernel
theorem dX10_readNumber_34 : decode cX10_readNumber 34 = .ok (.aload_n 0, 1) := by decide +kernel
theorem dX10_readNumber_35 : decode cX10_readNumber 35 = .ok (.getfield 17, 3) := by decide +kernel
theorem dX10_readNumber_38 : decode cX10_readNumber 38 = .ok (.invokevirtual 20, 3) := by decide +kernel
theorem dX10_readNumber_41 : decode cX10_readNumber 41 = .ok (.iadd, 1) := by decide +kernel
theorem dX10_readNumber_42 : decode cX10_readNumber 42 = .ok (.bipush 48, 2) := by decide +kernel
theorem dX10_readNumber_44 : decode cX10_readNumber 44 = .ok (.isub, 1) := by decide +kernel
theorem dX10_readNumber_45 : decode cX10_readNumber 45 = .ok (.putfield 31, 3) := by decide +kernel
theorem dX10_readNumber_48 : decode cX10_readNumber 48 = .ok (.aload_n 0, 1) := by decide +kernel
theorem dX10_readNumber_49 : decode cX10_readNumber 49 = .ok (.dup, 1) := by decide +kernel
theorem dX10_readNumber_50 : decode cX10_readNumber 50 = .ok (.getfield 17, 3) := by decide +kernel
theorem dX10_readNumber_53 : decode cX10_readNumber 53 = .ok (.iconst 1, 1) := by decide +kernel
theorem dX10_readNumber_54 : decode cX10_readNumber 54 = .ok (.iadd, 1) := by decide +kernel
theorem dX10_readNumber_55 : decode cX10_readNumber 55 = .ok (.putfield 17, 3) := by decide +kernel
theorem dX10_readNumber_58 : decode cX10_readNumber 58 = .ok (.goto (-58), 3) := by decide +kernel
theorem dX10_readNumber_61 : decode cX10_readNumber 61 = .ok (.aload_n 0, 1) := by decide +kernel
theorem dX10_readNumber_62 : decode cX10_readNumber 62 = .ok (.aload_n 0, 1) := by decide +kernel
theorem dX10_readNumber_63 : decode cX10_readNumber 63 = .ok (.getfield 17, 3) := by decide +kernel
theorem dX10_readNumber_66 : decode cX10_readNumber 66 = .ok (.aload_n 0, 1) := by decide +kernel
theorem dX10_readNumber_67 : decode cX10_readNumber 67 = .ok (.getfield 28, 3) := by decide +kernel
theorem dX10_readNumber_70 : decode cX10_readNumber 70 = .ok (.isub, 1) := by decide +kernel
theorem dX10_readNumber_71 : decode cX10_readNumber 71 = .ok (.iconst 4, 1) := by decide +kernel
theorem dX10_readNumber_72 : decode cX10_readNumber 72 = .ok (.if_icmp .gt 7, 3) := by decide +kernel
theorem dX10_readNumber_75 : decode cX10_readNumber 75 = .ok (.iconst 2, 1) := by decide +kernel
theorem dX10_readNumber_76 : decode cX10_readNumber 76 = .ok (.goto 4, 3) := by decide +kernel
theorem dX10_readNumber_79 : decode cX10_readNumber 79 = .ok (.iconst 4, 1) := by decide +kernel
theorem dX10_readNumber_80 : decode cX10_readNumber 80 = .ok (.putfield 34, 3) := by decide +kernel
theorem dX10_readNumber_83 : decode cX10_readNumber 83 = .ok (.return_, 1) := by decide +kernel
set_option maxRecDepth 20000 in
theorem ggX10_readNumber_X10_byteAt : GoodIn wsX10_readNumber wsX10_byteAt := goodIn_r _ [10, 2, 11, 15, 16, 17, 18, 19, 20] rfl (by decide +kernel)
set_option maxRecDepth 20000 in
theorem gX10_readNumber_X10_byteAt : GoodIn wsX10_readNumber (wsV RX10 20 RX10 yX10_byteAt wsX10_byteAt) := goodIn_app (goodIn_of _ (by decide +kernel)) ggX10_readNumber_X10_byteAt
set_option maxRecDepth 20000 in
theorem ggX10_readNumber_X10_isDigit : GoodIn wsX10_readNumber wsX10_isDigit := goodIn_r _ [14] rfl (by decide +kernel)
set_option maxRecDepth 20000 in
theorem gX10_readNumber_X10_isDigit : GoodIn wsX10_readNumber (va_wsS RX10 44 yX10_isDigit wsX10_isDigit) := goodIn_app (goodIn_of _ (by decide +kernel)) ggX10_readNumber_X10_isDigit
set_option maxHeartbeats 4000000 in
set_option maxRecDepth 100000 in
theorem S_X10_readNumber (l : Launch) (D : va_G) (K : Nat → ClassId) (a : Nat → Nat) (G : gS) (hI : xI G) (sz : Nat) : Kv l yX10_readNumber wsX10_readNumber 2 61 0 0 D [.ref (a 1)] (xW K a G) (tK K) sz (fun (G' : gS) => (xI G') ∧ (gu_un xcd [103, 104, 106] G G')) (fun (G' : gS) => (xW K a G')) (fun _ => (tK K)) := by
  unfold Kv
  refine g_ofW (cc := cX10_readNumber) (lv := [(0, .ref (a 1))]) (by decide) rfl (Nat.le_of_ble_eq_true rfl) rfl ?_
  intro p e s m args below meth c A Q hA hQ F hr hnm
  have hts := F.2.2.2.2.1
  have w_0 : (Cond.fieldLink RX10 17 "QuietCut$Tape" "at" "I").before args s = true := hts _ (List.mem_of_getElem? (i := 1) rfl)
  have i_X10 : ∀ w ∈ u_ws RX10 TX10 6, w ∈ wsX10_readNumber := fun _ h => List.mem_cons_of_mem _ (List.mem_append_right _ h)
  have w_1 : (Cond.fieldLink RX10 28 "QuietCut$Tape" "place" "I").before args s = true := hts _ (List.mem_of_getElem? (i := 4) rfl)
  have w_2 : (Cond.fieldLink RX10 34 "QuietCut$Tape" "kind" "I").before args s = true := hts _ (List.mem_of_getElem? (i := 5) rfl)
  have w_3 : (Cond.fieldLink RX10 13 "QuietCut$Tape" "length" "I").before args s = true := hts _ (List.mem_of_getElem? (i := 2) rfl)
  have w_4 : (Cond.fieldLink RX10 31 "QuietCut$Tape" "value" "I").before args s = true := hts _ (List.mem_of_getElem? (i := 3) rfl)
  have b1 : (0 : Int) ≤ (G 1 1).toInt ∧ (G 1 1).toInt ≤ 1000 := hI 1 1
  have b2 : (0 : Int) ≤ (G 1 2).toInt ∧ (G 1 2).toInt ≤ 1000 := hI 1 2
  have b3 : (0 : Int) ≤ (G 1 4).toInt ∧ (G 1 4).toInt ≤ 1000 := hI 1 4
  have J_61 : ∀  (Gj61 : gS), (xI Gj61) → (gu_un xcd [103, 106] G Gj61) → gG p l e (gR 2 0 0 61) s m args below meth c D A 1 Q 0 0 (xW K a Gj61) (tK K) [(0, .ref (a 1))] 61 [] := by
    intro Gj61 jI61 jU61
    refine g_aload_n F 0 dX10_readNumber_61 rfl rfl ?_
    refine g_aload_n F 0 dX10_readNumber_62 rfl rfl ?_
    refine xg_1_2 F i_X10 w_0 dX10_readNumber_63 (Gj61 1 2) (rfl) ?_
    refine g_aload_n F 0 dX10_readNumber_66 rfl rfl ?_
    refine xg_1_4 F i_X10 w_1 dX10_readNumber_67 (G 1 4) (jU61 1 4 (by decide)) ?_
    have b5 : (0 : Int) ≤ (Gj61 1 2).toInt ∧ (Gj61 1 2).toInt ≤ 1000 := jI61 1 2
    refine u_isub F dX10_readNumber_70 (Gj61 1 2).toInt (G 1 4).toInt rfl rfl (by omega) (by omega) (fun y4 ey4 => ?_)
    refine g_iconst F 4 dX10_readNumber_71 (by decide) ?_
    refine v_icmp_gt F 79 dX10_readNumber_72 (by decide) y4.toInt 4 rfl rfl (fun c6 => ?_) (fun c6 => ?_)
    · refine g_iconst F 4 dX10_readNumber_79 (by decide) ?_
      refine xp_1_3 F i_X10 w_2 dX10_readNumber_80 ?_
      exact u_vret F hA hQ hr (gu_up Gj61 1 3 4) (⟨(gu_I.up (j := 1) (k := 3) (v := 4) jI61 (show (0 : Int) ≤ (4 : Int32).toInt by decide) (show (4 : Int32).toInt ≤ 4 by decide)), (gu_un.up (j := 1) (k := 3) (v := 4) (gu_un.tr gu_un.rf (gu_un.su jU61 rfl)) (show (104 : Nat) ∈ ([103, 104, 106] : List Nat) by decide))⟩) rfl rfl dX10_readNumber_83
    · refine g_iconst F 2 dX10_readNumber_75 (by decide) ?_
      refine g_goto F 80 dX10_readNumber_76 (by decide) ?_
      refine xp_1_3 F i_X10 w_2 dX10_readNumber_80 ?_
      exact u_vret F hA hQ hr (gu_up Gj61 1 3 2) (⟨(gu_I.up (j := 1) (k := 3) (v := 2) jI61 (show (0 : Int) ≤ (2 : Int32).toInt by decide) (show (2 : Int32).toInt ≤ 4 by decide)), (gu_un.up (j := 1) (k := 3) (v := 2) (gu_un.tr gu_un.rf (gu_un.su jU61 rfl)) (show (104 : Nat) ∈ ([103, 104, 106] : List Nat) by decide))⟩) rfl rfl dX10_readNumber_83
  have J_0 : ∀ (fuel : Nat) (Gj0 : gS), (2147483647 - (Gj0 1 2).toInt).toNat < fuel → (xI Gj0) → (gu_un xcd [103, 106] G Gj0) → gG p l e (gR 2 0 0 61) s m args below meth c D A 1 Q 0 0 (xW K a Gj0) (tK K) [(0, .ref (a 1))] 0 [] := by
    intro fuel
    induction fuel with
    | zero => intro Gj0 hm; exact absurd hm (Nat.not_lt_zero _)
    | succ fuel_0 ih_0 =>
      intro Gj0 hm_0 jI0 jU0
      refine g_aload_n F 0 dX10_readNumber_0 rfl rfl ?_
      refine xg_1_2 F i_X10 w_0 dX10_readNumber_1 (Gj0 1 2) (rfl) ?_
      refine g_aload_n F 0 dX10_readNumber_4 rfl rfl ?_
      refine xg_1_1 F i_X10 w_3 dX10_readNumber_5 (G 1 1) (jU0 1 1 (by decide)) ?_
      have b7 : (0 : Int) ≤ (Gj0 1 2).toInt ∧ (Gj0 1 2).toInt ≤ 1000 := jI0 1 2
      refine v_icmp_ge F 61 dX10_readNumber_8 (by decide) (Gj0 1 2).toInt (G 1 1).toInt rfl rfl (fun c8 => ?_) (fun c8 => ?_)
      · exact J_61 Gj0 jI0 (gu_un.tr gu_un.rf (gu_un.su jU0 rfl))
      · refine g_aload_n F 0 dX10_readNumber_11 rfl rfl ?_
        refine g_aload_n F 0 dX10_readNumber_12 rfl rfl ?_
        refine xg_1_2 F i_X10 w_0 dX10_readNumber_13 (Gj0 1 2) (rfl) ?_
        refine u_callVi (k := 0) (n := 0) (b := a 1) (As := [.int (Gj0 1 2)]) (st := []) F (fun sz => S_X10_byteAt l D K a Gj0 (Gj0 1 2) (Gj0 1 2).toInt rfl jI0 sz) (cwV 1 hts gX10_readNumber_X10_byteAt rfl rfl rfl (by decide +kernel) ⟨Nat.le_of_ble_eq_true rfl, Nat.le_of_ble_eq_true rfl⟩) rfl 1 xc_1 rfl (Nat.le_of_ble_eq_true rfl) ⟨Nat.zero_le _, Nat.zero_le _⟩ dX10_readNumber_16 (fun r9 _ hw10 => ?_)
        refine u_call0 (k := 0) (n := 0) (As := [.int r9]) (st := []) F (fun sz => S_X10_isDigit l D r9 r9.toInt rfl sz) (va_cwS 1 hts gX10_readNumber_X10_isDigit rfl rfl rfl (by decide +kernel) ⟨Nat.le_of_ble_eq_true rfl, Nat.le_of_ble_eq_true rfl⟩) rfl (Nat.le_of_ble_eq_true rfl) ⟨Nat.zero_le _, Nat.zero_le _⟩ dX10_readNumber_19 (fun r12 _ hw13 => ?_)
        rcases hw13 with ⟨rfl, q15⟩ | ⟨rfl, q16⟩
        · refine v_if_eq F 61 dX10_readNumber_22 (by decide) 1 rfl (fun c17 => absurd c17 (by decide)) (fun c17 => ?_)
          refine g_aload_n F 0 dX10_readNumber_25 rfl rfl ?_
          refine g_aload_n F 0 dX10_readNumber_26 rfl rfl ?_
          refine xg_1_5 F i_X10 w_4 dX10_readNumber_27 (Gj0 1 5) (rfl) ?_
          refine g_bipush F 10 dX10_readNumber_30 (by decide) ?_
          refine u0_imul F dX10_readNumber_32 (fun y18 => ?_)
          refine g_aload_n F 0 dX10_readNumber_33 rfl rfl ?_
          refine g_aload_n F 0 dX10_readNumber_34 rfl rfl ?_
          refine xg_1_2 F i_X10 w_0 dX10_readNumber_35 (Gj0 1 2) (rfl) ?_
          refine u_callVi (k := 0) (n := 0) (b := a 1) (As := [.int (Gj0 1 2)]) (st := [.int y18, .ref (a 1)]) F (fun sz => S_X10_byteAt l D K a Gj0 (Gj0 1 2) (Gj0 1 2).toInt rfl jI0 sz) (cwV 1 hts gX10_readNumber_X10_byteAt rfl rfl rfl (by decide +kernel) ⟨Nat.le_of_ble_eq_true rfl, Nat.le_of_ble_eq_true rfl⟩) rfl 1 xc_1 rfl (Nat.le_of_ble_eq_true rfl) ⟨Nat.zero_le _, Nat.zero_le _⟩ dX10_readNumber_38 (fun r19 _ hw20 => ?_)
          refine u0_iadd F dX10_readNumber_41 (fun y22 => ?_)
          refine g_bipush F 48 dX10_readNumber_42 (by decide) ?_
          refine u_isubc F dX10_readNumber_44 y22.toInt 48 rfl rfl (fun y23 ey23 => ?_)
          refine xp_1_5 F i_X10 w_4 dX10_readNumber_45 ?_
          refine g_aload_n F 0 dX10_readNumber_48 rfl rfl ?_
          refine g_dup F dX10_readNumber_49 rfl ?_
          refine xg_1_2 F i_X10 w_0 dX10_readNumber_50 (Gj0 1 2) (rfl) ?_
          refine g_iconst F 1 dX10_readNumber_53 (by decide) ?_
          refine u_iadd F dX10_readNumber_54 (Gj0 1 2).toInt 1 rfl rfl (by omega) (by omega) (fun y24 ey24 => ?_)
          refine xp_1_2 F i_X10 w_0 dX10_readNumber_55 ?_
          refine g_goto F 0 dX10_readNumber_58 (by decide) ?_
          exact ih_0 (gu_up (gu_up Gj0 1 5 y23) 1 2 y24) (by have e9_1_2 : (gu_up (gu_up Gj0 1 5 y23) 1 2 y24) 1 2 = y24 := rfl; (try simp only [e9_1_2, true_and, and_true]) <;> omega) (gu_I.up (j := 1) (k := 2) (v := y24) (gu_I.up (j := 1) (k := 5) (v := y23) jI0 (ti_rng _).1 (ti_rng _).2) (show (0 : Int) ≤ Int32.toInt y24 by omega) (show Int32.toInt y24 ≤ 1000 by omega)) (gu_un.up (j := 1) (k := 2) (v := y24) (gu_un.up (j := 1) (k := 5) (v := y23) (gu_un.tr gu_un.rf (gu_un.su jU0 rfl)) (show (106 : Nat) ∈ ([103, 106] : List Nat) by decide)) (show (103 : Nat) ∈ ([103, 106] : List Nat) by decide))
        · refine v_if_eq F 61 dX10_readNumber_22 (by decide) 0 rfl (fun c25 => ?_) (fun c25 => absurd c25 (by decide))
          exact J_61 Gj0 jI0 (gu_un.tr gu_un.rf (gu_un.su jU0 rfl))
  exact J_0 _ G (Nat.lt_succ_self _) hI gu_un.rf

theorem dX10_readToken_0 : decode cX10_readToken 0 = .ok (.aload_n 0, 1) := by decide +kernel
theorem dX10_readToken_1 : decode cX10_readToken 1 = .ok (.getfield 17, 3) := by decide +kernel
theorem dX10_readToken_4 : decode cX10_readToken 4 = .ok (.aload_n 0, 1) := by decide +kernel
theorem dX10_readToken_5 : decode cX10_readToken 5 = .ok (.getfield 13, 3) := by decide +kernel
theorem dX10_readToken_8 : decode cX10_readToken 8 = .ok (.if_icmp .ge 30, 3) := by decide +kernel
theorem dX10_readToken_11 : decode cX10_readToken 11 = .ok (.aload_n 0, 1) := by decide +kernel
theorem dX10_readToken_12 : decode cX10_readToken 12 = .ok (.aload_n 0, 1) := by decide +kernel
theorem dX10_readToken_13 : decode cX10_readToken 13 = .ok (.getfield 17, 3) := by decide +kernel
theorem dX10_readToken_16 : decode cX10_readToken 16 = .ok (.invokevirtual 20, 3) := by decide +kernel
theorem dX10_readToken_19 : decode cX10_readToken 19 = .ok (.invokestatic 24, 3) := by decide +kernel
theorem dX10_readToken_22 : decode cX10_readToken 22 = .ok (.ifCond .eq 16, 3) := by decide +kernel
theorem dX10_readToken_25 : decode cX10_readToken 25 = .ok (.aload_n 0, 1) := by decide +kernel
theorem dX10_readToken_26 : decode cX10_readToken 26 = .ok (.dup, 1) := by decide +kernel
theorem dX10_readToken_27 : decode cX10_readToken 27 = .ok (.getfield 17, 3) := by decide +kernel
theorem dX10_readToken_30 : decode cX10_readToken 30 = .ok (.iconst 1, 1) := by decide +kernel
theorem dX10_readToken_31 : decode cX10_readToken 31 = .ok (.iadd, 1) := by decide +kernel
theorem dX10_readToken_32 : decode cX10_readToken 32 = .ok (.putfield 17, 3) := by decide +kernel
theorem dX10_readToken_35 : decode cX10_readToken 35 = .ok (.goto (-35), 3) := by decide +kernel
theorem dX10_readToken_38 : decode cX10_readToken 38 = .ok (.aload_n 0, 1) := by decide +kernel
theorem dX10_readToken_39 : decode cX10_readToken 39 = .ok (.aload_n 0, 1) := by decide +kernel
theorem dX10_readToken_40 : decode cX10_readToken 40 = .ok (.getfield 17, 3) := by decide +kernel
theorem dX10_readToken_43 : decode cX10_readToken 43 = .ok (.putfield 28, 3) := by decide +kernel
theorem dX10_readToken_46 : decode cX10_readToken 46 = .ok (.aload_n 0, 1) := by decide +kernel
theorem dX10_readToken_47 : decode cX10_readToken 47 = .ok (.iconst 0, 1) := by decide +kernel
theorem dX10_readToken_48 : decode cX10_readToken 48 = .ok (.putfield 31, 3) := by decide +kernel
theorem dX10_readToken_51 : decode cX10_readToken 51 = .ok (.aload_n 0, 1) := by decide +kernel
theorem dX10_readToken_52 : decode cX10_readToken 52 = .ok (.aload_n 0, 1) := by decide +kernel
theorem dX10_readToken_53 : decode cX10_readToken 53 = .ok (.getfield 17, 3) := by decide +kernel
theorem dX10_readToken_56 : decode cX10_readToken 56 = .ok (.invokevirtual 20, 3) := by decide +kernel
theorem dX10_readToken_59 : decode cX10_readToken 59 = .ok (.istore_n 1, 1) := by decide +kernel
theorem dX10_readToken_60 : decode cX10_readToken 60 = .ok (.aload_n 0, 1) := by decide +kernel
theorem dX10_readToken_61 : decode cX10_readToken 61 = .ok (.getfield 17, 3) := by decide +kernel
theorem dX10_readToken_64 : decode cX10_readToken 64 = .ok (.aload_n 0, 1) := by decide +kernel
theorem dX10_readToken_65 : decode cX10_readToken 65 = .ok (.getfield 13, 3) := by decide +kernel
theorem dX10_readToken_68 : decode cX10_readToken 68 = .ok (.if_icmp .lt 11, 3) := by decide +kernel
theorem dX10_readToken_71 : decode cX10_readToken 71 = .ok (.aload_n 0, 1) := by decide +kernel
theorem dX10_readToken_72 : decode cX10_readToken 72 = .ok (.iconst 0, 1) := by decide +kernel
theorem dX10_readToken_73 : decode cX10_readToken 73 = .ok (.putfield 34, 3) := by decide +kernel
theorem dX10_readToken_76 : decode cX10_readToken 76 = .ok (.goto 66, 3) := by decide +kernel
theorem dX10_readToken_79 : decode cX10_readToken 79 = .ok (.iload_n 1, 1) := by decide +kernel
theorem dX10_readToken_80 : decode cX10_readToken 80 = .ok (.invokestatic 37, 3) := by decide +kernel
theorem dX10_readToken_83 : decode cX10_readToken 83 = .ok (.ifCond .eq 11, 3) := by decide +kernel
theorem dX10_readToken_86 : decode cX10_readToken 86 = .ok (.aload_n 0, 1) := by decide +kernel
theorem dX10_readToken_87 : decode cX10_readToken 87 = .ok (.iload_n 1, 1) := by decide +kernel
theorem dX10_readToken_88 : decode cX10_readToken 88 = .ok (.invokevirtual 40, 3) := by decide +kernel
theorem dX10_readToken_91 : decode cX10_readToken 91 = .ok (.goto 51, 3) := by decide +kernel
theorem dX10_readToken_94 : decode cX10_readToken 94 = .ok (.iload_n 1, 1) := by decide +kernel
theorem dX10_readToken_95 : decode cX10_readToken 95 = .ok (.invokestatic 44, 3) := by decide +kernel
theorem dX10_readToken_98 : decode cX10_readToken 98 = .ok (.ifCond .eq 10, 3) := by decide +kernel
theorem dX10_readToken_101 : decode cX10_readToken 101 = .ok (.aload_n 0, 1) := by decide +kernel
theorem dX10_readToken_102 : decode cX10_readToken 102 = .ok (.invokevirtual 47, 3) := by decide +kernel
theorem dX10_readToken_105 : decode cX10_readToken 105 = .ok (.goto 37, 3) := by decide +kernel
theorem dX10_readToken_108 : decode cX10_readToken 108 = .ok (.aload_n 0, 1) := by decide +kernel
theorem dX10_readToken_109 : decode cX10_readToken 109 = .ok (.ldc 50, 2) := by decide +kernel
theorem dX10_readToken_111 : decode cX10_readToken 111 = .ok (.iload_n 1, 1) := by decide +kernel
theorem dX10_readToken_112 : decode cX10_readToken 112 = .ok (.i2c, 1) := by decide +kernel
theorem dX10_readToken_113 : decode cX10_readToken 113 = .ok (.invokevirtual 52, 3) := by decide +kernel
theorem dX10_readToken_116 : decode cX10_readToken 116 = .ok (.ifCond .lt 7, 3) := by decide +kernel
theorem dX10_readToken_119 : decode cX10_readToken 119 = .ok (.iconst 3, 1) := by decide +kernel
theorem dX10_readToken_120 : decode cX10_readToken 120 = .ok (.goto 4, 3) := by decide +kernel
theorem dX10_readToken_123 : decode cX10_readToken 123 = .ok (.iconst 4, 1) := by decide +kernel
theorem dX10_readToken_124 : decode cX10_readToken 124 = .ok (.putfield 34, 3) := by decide +kernel
theorem dX10_readToken_127 : decode cX10_readToken 127 = .ok (.aload_n 0, 1) := by decide +kernel
theorem dX10_readToken_128 : decode cX10_readToken 128 = .ok (.iload_n 1, 1) := by decide +kernel
theorem dX10_readToken_129 : decode cX10_readToken 129 = .ok (.putfield 31, 3) := by decide +kernel
theorem dX10_readToken_132 : decode cX10_readToken 132 = .ok (.aload_n 0, 1) := by decide +kernel
theorem dX10_readToken_133 : decode cX10_readToken 133 = .ok (.dup, 1) := by decide +kernel
theorem dX10_readToken_134 : decode cX10_readToken 134 = .ok (.getfield 17, 3) := by decide +kernel
theorem dX10_readToken_137 : decode cX10_readToken 137 = .ok (.iconst 1, 1) := by decide +kernel
theorem dX10_readToken_138 : decode cX10_readToken 138 = .ok (.iadd, 1) := by decide +kernel
theorem dX10_readToken_139 : decode cX10_readToken 139 = .ok (.putfield 17, 3) := by decide +kernel
theorem dX10_readToken_142 : decode cX10_readToken 142 = .ok (.return_, 1) := by decide +kernel
set_option maxRecDepth 20000 in
theorem ggX10_readToken_J0_indexOf_0f7a4 : GoodIn wsX10_readToken wsJ0_indexOf_0f7a4 := goodIn_r _ [33, 34, 35, 36, 32, 37, 38, 39, 40, 41, 42, 43, 44, 45, 46, 47, 48, 49, 50, 51, 52, 53, 54, 55, 56, 57, 58, 59, 60, 61, 62, 63, 64, 65, 66, 67, 68, 69, 70, 71, 72, 73, 74, 75, 76, 77, 78, 79, 80, 81, 82, 83, 84, 85, 86, 87, 88, 89, 90, 91, 92, 93, 94, 95, 96, 97, 98, 99, 100, 101, 102, 103, 104, 105, 106, 107, 108, 109, 110, 111, 112, 113, 114, 115, 116, 117] rfl (by decide +kernel)
set_option maxRecDepth 20000 in
theorem gX10_readToken_J0_indexOf_0f7a4 : GoodIn wsX10_readToken (wsV RX10 52 RJ0 yJ0_indexOf_0f7a4 wsJ0_indexOf_0f7a4) := goodIn_app (goodIn_of _ (by decide +kernel)) ggX10_readToken_J0_indexOf_0f7a4
set_option maxRecDepth 20000 in
theorem ggX10_readToken_X10_byteAt : GoodIn wsX10_readToken wsX10_byteAt := goodIn_r _ [10, 2, 11, 118, 119, 120, 121, 122, 123] rfl (by decide +kernel)
set_option maxRecDepth 20000 in
theorem gX10_readToken_X10_byteAt : GoodIn wsX10_readToken (wsV RX10 20 RX10 yX10_byteAt wsX10_byteAt) := goodIn_app (goodIn_of _ (by decide +kernel)) ggX10_readToken_X10_byteAt
set_option maxRecDepth 20000 in
theorem ggX10_readToken_X10_isBlank : GoodIn wsX10_readToken wsX10_isBlank := goodIn_r _ [14] rfl (by decide +kernel)
set_option maxRecDepth 20000 in
theorem gX10_readToken_X10_isBlank : GoodIn wsX10_readToken (va_wsS RX10 24 yX10_isBlank wsX10_isBlank) := goodIn_app (goodIn_of _ (by decide +kernel)) ggX10_readToken_X10_isBlank
set_option maxRecDepth 20000 in
theorem ggX10_readToken_X10_isDigit : GoodIn wsX10_readToken wsX10_isDigit := goodIn_r _ [24] rfl (by decide +kernel)
set_option maxRecDepth 20000 in
theorem gX10_readToken_X10_isDigit : GoodIn wsX10_readToken (va_wsS RX10 44 yX10_isDigit wsX10_isDigit) := goodIn_app (goodIn_of _ (by decide +kernel)) ggX10_readToken_X10_isDigit
set_option maxRecDepth 20000 in
theorem ggX10_readToken_X10_isLetter : GoodIn wsX10_readToken wsX10_isLetter := goodIn_r _ [17] rfl (by decide +kernel)
set_option maxRecDepth 20000 in
theorem gX10_readToken_X10_isLetter : GoodIn wsX10_readToken (va_wsS RX10 37 yX10_isLetter wsX10_isLetter) := goodIn_app (goodIn_of _ (by decide +kernel)) ggX10_readToken_X10_isLetter
set_option maxRecDepth 20000 in
theorem ggX10_readToken_X10_readNumber : GoodIn wsX10_readToken wsX10_readNumber := goodIn_r _ [28, 1, 2, 4, 3, 5, 6, 7, 8, 9, 10, 11, 22, 23, 24, 118, 119, 120, 121, 122, 123] rfl (by decide +kernel)
set_option maxRecDepth 20000 in
theorem gX10_readToken_X10_readNumber : GoodIn wsX10_readToken (wsV RX10 47 RX10 yX10_readNumber wsX10_readNumber) := goodIn_app (goodIn_of _ (by decide +kernel)) ggX10_readToken_X10_readNumber
set_option maxRecDepth 20000 in
theorem ggX10_readToken_X10_readWord : GoodIn wsX10_readToken wsX10_readWord := goodIn_r _ [21, 1, 2, 3, 5, 4, 6, 7, 8, 9, 10, 11, 15, 16, 17, 118, 119, 120, 121, 122, 123] rfl (by decide +kernel)
set_option maxRecDepth 20000 in
theorem gX10_readToken_X10_readWord : GoodIn wsX10_readToken (wsV RX10 40 RX10 yX10_readWord wsX10_readWord) := goodIn_app (goodIn_of _ (by decide +kernel)) ggX10_readToken_X10_readWord
set_option maxHeartbeats 4000000 in
set_option maxRecDepth 100000 in
theorem S_X10_readToken (l : Launch) (D : va_G) (K : Nat → ClassId) (a : Nat → Nat) (G : gS) (zf : Nat → Nat) (hI : xI G) (sz : Nat) : KvZ (xZ zf) l yX10_readToken wsX10_readToken 5 131 D [.ref (a 1)] (xW K a G) (tK K) sz (fun (G' : gS) => (xI G') ∧ (gu_un xcd [103, 104, 105, 106] G G')) (fun (G' : gS) => (xW K a G')) := by
  unfold KvZ
  refine gz_ofW (cc := cX10_readToken) (lv := [(0, .ref (a 1))]) (by decide) rfl (Nat.le_of_ble_eq_true rfl) rfl ?_
  intro p e s m args below meth c A Q hA hQ hZ F hr hnm
  have hts := F.2.2.2.2.1
  have w_0 : (Cond.fieldLink RX10 17 "QuietCut$Tape" "at" "I").before args s = true := hts _ (List.mem_of_getElem? (i := 1) rfl)
  have i_X10 : ∀ w ∈ u_ws RX10 TX10 6, w ∈ wsX10_readToken := fun _ h => List.mem_cons_of_mem _ (List.mem_append_right _ h)
  have w_1 : (Cond.fieldLink RX10 28 "QuietCut$Tape" "place" "I").before args s = true := hts _ (List.mem_of_getElem? (i := 3) rfl)
  have w_2 : (Cond.fieldLink RX10 31 "QuietCut$Tape" "value" "I").before args s = true := hts _ (List.mem_of_getElem? (i := 4) rfl)
  have w_3 : (Cond.fieldLink RX10 13 "QuietCut$Tape" "length" "I").before args s = true := hts _ (List.mem_of_getElem? (i := 2) rfl)
  have w_4 : (Cond.fieldLink RX10 34 "QuietCut$Tape" "kind" "I").before args s = true := hts _ (List.mem_of_getElem? (i := 5) rfl)
  have b1 : (0 : Int) ≤ (G 1 1).toInt ∧ (G 1 1).toInt ≤ 1000 := hI 1 1
  have b2 : (0 : Int) ≤ (G 1 2).toInt ∧ (G 1 2).toInt ≤ 1000 := hI 1 2
  have J_38 : ∀  (Gj38 : gS), (xI Gj38) → (gu_un xcd [103] G Gj38) → gG p l e (gR 5 0 0 131) s m args below meth c D A 2 Q 0 0 (xW K a Gj38) (tK K) [(0, .ref (a 1))] 38 [] := by
    intro Gj38 jI38 jU38
    refine g_aload_n F 0 dX10_readToken_38 rfl rfl ?_
    refine g_aload_n F 0 dX10_readToken_39 rfl rfl ?_
    refine xg_1_2 F i_X10 w_0 dX10_readToken_40 (Gj38 1 2) (rfl) ?_
    have b3 : (0 : Int) ≤ (Gj38 1 2).toInt ∧ (Gj38 1 2).toInt ≤ 1000 := jI38 1 2
    refine xp_1_4 F i_X10 w_1 dX10_readToken_43 ?_
    refine g_aload_n F 0 dX10_readToken_46 rfl rfl ?_
    refine g_iconst F 0 dX10_readToken_47 (by decide) ?_
    refine xp_1_5 F i_X10 w_2 dX10_readToken_48 ?_
    refine g_aload_n F 0 dX10_readToken_51 rfl rfl ?_
    refine g_aload_n F 0 dX10_readToken_52 rfl rfl ?_
    refine xg_1_2 F i_X10 w_0 dX10_readToken_53 (Gj38 1 2) (rfl) ?_
    refine u_callVi (k := 0) (n := 0) (b := a 1) (As := [.int (Gj38 1 2)]) (st := []) F (fun sz => S_X10_byteAt l D K a (gu_up (gu_up Gj38 1 4 (Gj38 1 2)) 1 5 0) (Gj38 1 2) (Gj38 1 2).toInt rfl (gu_I.up (j := 1) (k := 5) (v := 0) (gu_I.up (j := 1) (k := 4) (v := (Gj38 1 2)) jI38 (show (0 : Int) ≤ Int32.toInt (Gj38 1 2) by omega) (show Int32.toInt (Gj38 1 2) ≤ 1000 by omega)) (ti_rng _).1 (ti_rng _).2) sz) (cwV 1 hts gX10_readToken_X10_byteAt rfl rfl rfl (by decide +kernel) ⟨Nat.le_of_ble_eq_true rfl, Nat.le_of_ble_eq_true rfl⟩) rfl 1 xc_1 rfl (Nat.le_of_ble_eq_true rfl) ⟨Nat.zero_le _, Nat.zero_le _⟩ dX10_readToken_56 (fun r4 _ hw5 => ?_)
    refine g_istore_n F [(1, .int r4), (0, .ref (a 1))] dX10_readToken_59 rfl (by decide) rfl ?_
    refine g_aload_n F 1 dX10_readToken_60 rfl rfl ?_
    refine xg_1_2 F i_X10 w_0 dX10_readToken_61 (Gj38 1 2) (rfl) ?_
    refine g_aload_n F 1 dX10_readToken_64 rfl rfl ?_
    refine xg_1_1 F i_X10 w_3 dX10_readToken_65 (G 1 1) (jU38 1 1 (by decide)) ?_
    refine v_icmp_lt F 79 dX10_readToken_68 (by decide) (Gj38 1 2).toInt (G 1 1).toInt rfl rfl (fun c7 => ?_) (fun c7 => ?_)
    · refine g_iload_n F 0 dX10_readToken_79 rfl rfl ?_
      refine u_call0 (k := 0) (n := 0) (As := [.int r4]) (st := []) F (fun sz => S_X10_isLetter l D r4 r4.toInt rfl sz) (va_cwS 1 hts gX10_readToken_X10_isLetter rfl rfl rfl (by decide +kernel) ⟨Nat.le_of_ble_eq_true rfl, Nat.le_of_ble_eq_true rfl⟩) rfl (Nat.le_of_ble_eq_true rfl) ⟨Nat.zero_le _, Nat.zero_le _⟩ dX10_readToken_80 (fun r8 _ hw9 => ?_)
      rcases hw9 with ⟨rfl, q11⟩ | ⟨rfl, q12⟩
      · refine v_if_eq F 94 dX10_readToken_83 (by decide) 1 rfl (fun c13 => absurd c13 (by decide)) (fun c13 => ?_)
        refine g_aload_n F 1 dX10_readToken_86 rfl rfl ?_
        refine g_iload_n F 0 dX10_readToken_87 rfl rfl ?_
        refine u_callVv (k := 0) (n := 0) (b := a 1) (As := [.int r4]) (st := []) F (fun sz => S_X10_readWord l D K a (gu_up (gu_up Gj38 1 4 (Gj38 1 2)) 1 5 0) r4 r4.toInt rfl (gu_I.up (j := 1) (k := 5) (v := 0) (gu_I.up (j := 1) (k := 4) (v := (Gj38 1 2)) jI38 (show (0 : Int) ≤ Int32.toInt (Gj38 1 2) by omega) (show Int32.toInt (Gj38 1 2) ≤ 1000 by omega)) (ti_rng _).1 (ti_rng _).2) sz) (cwV 1 hts gX10_readToken_X10_readWord rfl rfl rfl (by decide +kernel) ⟨Nat.le_of_ble_eq_true rfl, Nat.le_of_ble_eq_true rfl⟩) rfl 1 xc_1 rfl (Nat.le_of_ble_eq_true rfl) ⟨Nat.zero_le _, Nat.zero_le _⟩ dX10_readToken_88 (fun G16 hw15 => ?_)
        have hI17 : xI G16 := hw15.1
        have hU18 : gu_un xcd [103, 104, 106] (gu_up (gu_up Gj38 1 4 (Gj38 1 2)) 1 5 0) G16 := hw15.2
        refine g_goto F 142 dX10_readToken_91 (by decide) ?_
        exact u_vret F hA hQ hr G16 (⟨hI17, (gu_un.tr (gu_un.up (j := 1) (k := 5) (v := 0) (gu_un.up (j := 1) (k := 4) (v := (Gj38 1 2)) (gu_un.tr gu_un.rf (gu_un.su jU38 rfl)) (show (105 : Nat) ∈ ([103, 104, 105, 106] : List Nat) by decide)) (show (106 : Nat) ∈ ([103, 104, 105, 106] : List Nat) by decide)) (gu_un.su hU18 rfl))⟩) rfl rfl dX10_readToken_142
      · refine v_if_eq F 94 dX10_readToken_83 (by decide) 0 rfl (fun c20 => ?_) (fun c20 => absurd c20 (by decide))
        refine g_iload_n F 0 dX10_readToken_94 rfl rfl ?_
        refine u_call0 (k := 0) (n := 0) (As := [.int r4]) (st := []) F (fun sz => S_X10_isDigit l D r4 r4.toInt rfl sz) (va_cwS 1 hts gX10_readToken_X10_isDigit rfl rfl rfl (by decide +kernel) ⟨Nat.le_of_ble_eq_true rfl, Nat.le_of_ble_eq_true rfl⟩) rfl (Nat.le_of_ble_eq_true rfl) ⟨Nat.zero_le _, Nat.zero_le _⟩ dX10_readToken_95 (fun r21 _ hw22 => ?_)
        rcases hw22 with ⟨rfl, q24⟩ | ⟨rfl, q25⟩
        · refine v_if_eq F 108 dX10_readToken_98 (by decide) 1 rfl (fun c26 => absurd c26 (by decide)) (fun c26 => ?_)
          refine g_aload_n F 1 dX10_readToken_101 rfl rfl ?_
          refine u_callVv (k := 0) (n := 0) (b := a 1) (As := []) (st := []) F (fun sz => S_X10_readNumber l D K a (gu_up (gu_up Gj38 1 4 (Gj38 1 2)) 1 5 0)  (gu_I.up (j := 1) (k := 5) (v := 0) (gu_I.up (j := 1) (k := 4) (v := (Gj38 1 2)) jI38 (show (0 : Int) ≤ Int32.toInt (Gj38 1 2) by omega) (show Int32.toInt (Gj38 1 2) ≤ 1000 by omega)) (ti_rng _).1 (ti_rng _).2) sz) (cwV 0 hts gX10_readToken_X10_readNumber rfl rfl rfl (by decide +kernel) ⟨Nat.le_of_ble_eq_true rfl, Nat.le_of_ble_eq_true rfl⟩) rfl 1 xc_1 rfl (Nat.le_of_ble_eq_true rfl) ⟨Nat.zero_le _, Nat.zero_le _⟩ dX10_readToken_102 (fun G29 hw28 => ?_)
          have hI30 : xI G29 := hw28.1
          have hU31 : gu_un xcd [103, 104, 106] (gu_up (gu_up Gj38 1 4 (Gj38 1 2)) 1 5 0) G29 := hw28.2
          refine g_goto F 142 dX10_readToken_105 (by decide) ?_
          exact u_vret F hA hQ hr G29 (⟨hI30, (gu_un.tr (gu_un.up (j := 1) (k := 5) (v := 0) (gu_un.up (j := 1) (k := 4) (v := (Gj38 1 2)) (gu_un.tr gu_un.rf (gu_un.su jU38 rfl)) (show (105 : Nat) ∈ ([103, 104, 105, 106] : List Nat) by decide)) (show (106 : Nat) ∈ ([103, 104, 105, 106] : List Nat) by decide)) (gu_un.su hU31 rfl))⟩) rfl rfl dX10_readToken_142
        · refine v_if_eq F 108 dX10_readToken_98 (by decide) 0 rfl (fun c33 => ?_) (fun c33 => absurd c33 (by decide))
          refine g_aload_n F 1 dX10_readToken_108 rfl rfl ?_
          refine uz_ldcS F hZ.2.2.1 dX10_readToken_109 ?_
          refine g_iload_n F 0 dX10_readToken_111 rfl rfl ?_
          refine uz_i2c F dX10_readToken_112 r4.toInt rfl (by omega) (by omega) ?_
          refine uz_call0Vi (k := 0) (n := 0) (b := (zf 2)) (As := [.int r4]) (st := [.ref (a 1)]) F zS_st hZ.2.1 (fun sz => S_J0_indexOf_0f7a4 l D (zf 2) (zf 3) _ _ (by decide) r4 r4.toInt rfl sz) (cwV 1 hts gX10_readToken_J0_indexOf_0f7a4 rfl rfl rfl (by decide +kernel) ⟨Nat.le_of_ble_eq_true rfl, Nat.le_of_ble_eq_true rfl⟩) hZ.2.1.1 rfl (Nat.le_of_ble_eq_true rfl) ⟨Nat.zero_le _, Nat.zero_le _⟩ dX10_readToken_113 (fun r34 _ hw35 => ?_)
          refine v_if_lt F 123 dX10_readToken_116 (by decide) r34.toInt rfl (fun c36 => ?_) (fun c36 => ?_)
          · refine g_iconst F 4 dX10_readToken_123 (by decide) ?_
            refine xp_1_3 F i_X10 w_4 dX10_readToken_124 ?_
            refine g_aload_n F 1 dX10_readToken_127 rfl rfl ?_
            refine g_iload_n F 0 dX10_readToken_128 rfl rfl ?_
            refine xp_1_5 F i_X10 w_2 dX10_readToken_129 ?_
            refine g_aload_n F 1 dX10_readToken_132 rfl rfl ?_
            refine g_dup F dX10_readToken_133 rfl ?_
            refine xg_1_2 F i_X10 w_0 dX10_readToken_134 (Gj38 1 2) (rfl) ?_
            refine g_iconst F 1 dX10_readToken_137 (by decide) ?_
            refine u_iadd F dX10_readToken_138 (Gj38 1 2).toInt 1 rfl rfl (by omega) (by omega) (fun y37 ey37 => ?_)
            refine xp_1_2 F i_X10 w_0 dX10_readToken_139 ?_
            exact u_vret F hA hQ hr (gu_up (gu_up (gu_up (gu_up (gu_up Gj38 1 4 (Gj38 1 2)) 1 5 0) 1 3 4) 1 5 r4) 1 2 y37) (⟨(gu_I.up (j := 1) (k := 2) (v := y37) (gu_I.up (j := 1) (k := 5) (v := r4) (gu_I.up (j := 1) (k := 3) (v := 4) (gu_I.up (j := 1) (k := 5) (v := 0) (gu_I.up (j := 1) (k := 4) (v := (Gj38 1 2)) jI38 (show (0 : Int) ≤ Int32.toInt (Gj38 1 2) by omega) (show Int32.toInt (Gj38 1 2) ≤ 1000 by omega)) (ti_rng _).1 (ti_rng _).2) (show (0 : Int) ≤ (4 : Int32).toInt by decide) (show (4 : Int32).toInt ≤ 4 by decide)) (ti_rng _).1 (ti_rng _).2) (show (0 : Int) ≤ Int32.toInt y37 by omega) (show Int32.toInt y37 ≤ 1000 by omega)), (gu_un.up (j := 1) (k := 2) (v := y37) (gu_un.up (j := 1) (k := 5) (v := r4) (gu_un.up (j := 1) (k := 3) (v := 4) (gu_un.up (j := 1) (k := 5) (v := 0) (gu_un.up (j := 1) (k := 4) (v := (Gj38 1 2)) (gu_un.tr gu_un.rf (gu_un.su jU38 rfl)) (show (105 : Nat) ∈ ([103, 104, 105, 106] : List Nat) by decide)) (show (106 : Nat) ∈ ([103, 104, 105, 106] : List Nat) by decide)) (show (104 : Nat) ∈ ([103, 104, 105, 106] : List Nat) by decide)) (show (106 : Nat) ∈ ([103, 104, 105, 106] : List Nat) by decide)) (show (103 : Nat) ∈ ([103, 104, 105, 106] : List Nat) by decide))⟩) rfl rfl dX10_readToken_142
          · refine g_iconst F 3 dX10_readToken_119 (by decide) ?_
            refine g_goto F 124 dX10_readToken_120 (by decide) ?_
            refine xp_1_3 F i_X10 w_4 dX10_readToken_124 ?_
            refine g_aload_n F 1 dX10_readToken_127 rfl rfl ?_
            refine g_iload_n F 0 dX10_readToken_128 rfl rfl ?_
            refine xp_1_5 F i_X10 w_2 dX10_readToken_129 ?_
            refine g_aload_n F 1 dX10_readToken_132 rfl rfl ?_
            refine g_dup F dX10_readToken_133 rfl ?_
            refine xg_1_2 F i_X10 w_0 dX10_readToken_134 (Gj38 1 2) (rfl) ?_
            refine g_iconst F 1 dX10_readToken_137 (by decide) ?_
            refine u_iadd F dX10_readToken_138 (Gj38 1 2).toInt 1 rfl rfl (by omega) (by omega) (fun y38 ey38 => ?_)
            refine xp_1_2 F i_X10 w_0 dX10_readToken_139 ?_
            exact u_vret F hA hQ hr (gu_up (gu_up (gu_up (gu_up (gu_up Gj38 1 4 (Gj38 1 2)) 1 5 0) 1 3 3) 1 5 r4) 1 2 y38) (⟨(gu_I.up (j := 1) (k := 2) (v := y38) (gu_I.up (j := 1) (k := 5) (v := r4) (gu_I.up (j := 1) (k := 3) (v := 3) (gu_I.up (j := 1) (k := 5) (v := 0) (gu_I.up (j := 1) (k := 4) (v := (Gj38 1 2)) jI38 (show (0 : Int) ≤ Int32.toInt (Gj38 1 2) by omega) (show Int32.toInt (Gj38 1 2) ≤ 1000 by omega)) (ti_rng _).1 (ti_rng _).2) (show (0 : Int) ≤ (3 : Int32).toInt by decide) (show (3 : Int32).toInt ≤ 4 by decide)) (ti_rng _).1 (ti_rng _).2) (show (0 : Int) ≤ Int32.toInt y38 by omega) (show Int32.toInt y38 ≤ 1000 by omega)), (gu_un.up (j := 1) (k := 2) (v := y38) (gu_un.up (j := 1) (k := 5) (v := r4) (gu_un.up (j := 1) (k := 3) (v := 3) (gu_un.up (j := 1) (k := 5) (v := 0) (gu_un.up (j := 1) (k := 4) (v := (Gj38 1 2)) (gu_un.tr gu_un.rf (gu_un.su jU38 rfl)) (show (105 : Nat) ∈ ([103, 104, 105, 106] : List Nat) by decide)) (show (106 : Nat) ∈ ([103, 104, 105, 106] : List Nat) by decide)) (show (104 : Nat) ∈ ([103, 104, 105, 106] : List Nat) by decide)) (show (106 : Nat) ∈ ([103, 104, 105, 106] : List Nat) by decide)) (show (103 : Nat) ∈ ([103, 104, 105, 106] : List Nat) by decide))⟩) rfl rfl dX10_readToken_142
    · refine g_aload_n F 1 dX10_readToken_71 rfl rfl ?_
      refine g_iconst F 0 dX10_readToken_72 (by decide) ?_
      refine xp_1_3 F i_X10 w_4 dX10_readToken_73 ?_
      refine g_goto F 142 dX10_readToken_76 (by decide) ?_
      exact u_vret F hA hQ hr (gu_up (gu_up (gu_up Gj38 1 4 (Gj38 1 2)) 1 5 0) 1 3 0) (⟨(gu_I.up (j := 1) (k := 3) (v := 0) (gu_I.up (j := 1) (k := 5) (v := 0) (gu_I.up (j := 1) (k := 4) (v := (Gj38 1 2)) jI38 (show (0 : Int) ≤ Int32.toInt (Gj38 1 2) by omega) (show Int32.toInt (Gj38 1 2) ≤ 1000 by omega)) (ti_rng _).1 (ti_rng _).2) (show (0 : Int) ≤ (0 : Int32).toInt by decide) (show (0 : Int32).toInt ≤ 4 by decide)), (gu_un.up (j := 1) (k := 3) (v := 0) (gu_un.up (j := 1) (k := 5) (v := 0) (gu_un.up (j := 1) (k := 4) (v := (Gj38 1 2)) (gu_un.tr gu_un.rf (gu_un.su jU38 rfl)) (show (105 : Nat) ∈ ([103, 104, 105, 106] : List Nat) by decide)) (show (106 : Nat) ∈ ([103, 104, 105, 106] : List Nat) by decide)) (show (104 : Nat) ∈ ([103, 104, 105, 106] : List Nat) by decide))⟩) rfl rfl dX10_readToken_142
  have J_0 : ∀ (fuel : Nat) (Gj0 : gS), (2147483647 - (Gj0 1 2).toInt).toNat < fuel → (xI Gj0) → (gu_un xcd [103] G Gj0) → gG p l e (gR 5 0 0 131) s m args below meth c D A 2 Q 0 0 (xW K a Gj0) (tK K) [(0, .ref (a 1))] 0 [] := by
    intro fuel
    induction fuel with
    | zero => intro Gj0 hm; exact absurd hm (Nat.not_lt_zero _)
    | succ fuel_0 ih_0 =>
      intro Gj0 hm_0 jI0 jU0
      refine g_aload_n F 0 dX10_readToken_0 rfl rfl ?_
      refine xg_1_2 F i_X10 w_0 dX10_readToken_1 (Gj0 1 2) (rfl) ?_
      refine g_aload_n F 0 dX10_readToken_4 rfl rfl ?_
      refine xg_1_1 F i_X10 w_3 dX10_readToken_5 (G 1 1) (jU0 1 1 (by decide)) ?_
      have b39 : (0 : Int) ≤ (Gj0 1 2).toInt ∧ (Gj0 1 2).toInt ≤ 1000 := jI0 1 2
      refine v_icmp_ge F 38 dX10_readToken_8 (by decide) (Gj0 1 2).toInt (G 1 1).toInt rfl rfl (fun c40 => ?_) (fun c40 => ?_)
      · exact J_38 Gj0 jI0 (gu_un.tr gu_un.rf (gu_un.su jU0 rfl))
      · refine g_aload_n F 0 dX10_readToken_11 rfl rfl ?_
        refine g_aload_n F 0 dX10_readToken_12 rfl rfl ?_
        refine xg_1_2 F i_X10 w_0 dX10_readToken_13 (Gj0 1 2) (rfl) ?_
        refine u_callVi (k := 0) (n := 0) (b := a 1) (As := [.int (Gj0 1 2)]) (st := []) F (fun sz => S_X10_byteAt l D K a Gj0 (Gj0 1 2) (Gj0 1 2).toInt rfl jI0 sz) (cwV 1 hts gX10_readToken_X10_byteAt rfl rfl rfl (by decide +kernel) ⟨Nat.le_of_ble_eq_true rfl, Nat.le_of_ble_eq_true rfl⟩) rfl 1 xc_1 rfl (Nat.le_of_ble_eq_true rfl) ⟨Nat.zero_le _, Nat.zero_le _⟩ dX10_readToken_16 (fun r41 _ hw42 => ?_)
        refine u_call0 (k := 0) (n := 0) (As := [.int r41]) (st := []) F (fun sz => S_X10_isBlank l D r41 r41.toInt rfl sz) (va_cwS 1 hts gX10_readToken_X10_isBlank rfl rfl rfl (by decide +kernel) ⟨Nat.le_of_ble_eq_true rfl, Nat.le_of_ble_eq_true rfl⟩) rfl (Nat.le_of_ble_eq_true rfl) ⟨Nat.zero_le _, Nat.zero_le _⟩ dX10_readToken_19 (fun r44 _ hw45 => ?_)
        rcases hw45 with ⟨rfl, q47⟩ | ⟨rfl, q48⟩
        · refine v_if_eq F 38 dX10_readToken_22 (by decide) 1 rfl (fun c49 => absurd c49 (by decide)) (fun c49 => ?_)
          refine g_aload_n F 0 dX10_readToken_25 rfl rfl ?_
          refine g_dup F dX10_readToken_26 rfl ?_
          refine xg_1_2 F i_X10 w_0 dX10_readToken_27 (Gj0 1 2) (rfl) ?_
          refine g_iconst F 1 dX10_readToken_30 (by decide) ?_
          refine u_iadd F dX10_readToken_31 (Gj0 1 2).toInt 1 rfl rfl (by omega) (by omega) (fun y50 ey50 => ?_)
          refine xp_1_2 F i_X10 w_0 dX10_readToken_32 ?_
          refine g_goto F 0 dX10_readToken_35 (by decide) ?_
          exact ih_0 (gu_up Gj0 1 2 y50) (by have e9_1_2 : (gu_up Gj0 1 2 y50) 1 2 = y50 := rfl; (try simp only [e9_1_2, true_and, and_true]) <;> omega) (gu_I.up (j := 1) (k := 2) (v := y50) jI0 (show (0 : Int) ≤ Int32.toInt y50 by omega) (show Int32.toInt y50 ≤ 1000 by omega)) (gu_un.up (j := 1) (k := 2) (v := y50) (gu_un.tr gu_un.rf (gu_un.su jU0 rfl)) (show (103 : Nat) ∈ ([103] : List Nat) by decide))
        · refine v_if_eq F 38 dX10_readToken_22 (by decide) 0 rfl (fun c51 => ?_) (fun c51 => absurd c51 (by decide))
          exact J_38 Gj0 jI0 (gu_un.tr gu_un.rf (gu_un.su jU0 rfl))
  exact J_0 _ G (Nat.lt_succ_self _) hI gu_un.rf
