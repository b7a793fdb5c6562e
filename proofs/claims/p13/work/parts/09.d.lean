theorem dX10_isWord_0 : decode cX10_isWord 0 = .ok (.aload_n 0, 1) := by decide +kernel
theorem dX10_isWord_1 : decode cX10_isWord 1 = .ok (.getfield 34, 3) := by decide +kernel
theorem dX10_isWord_4 : decode cX10_isWord 4 = .ok (.iconst 1, 1) := by decide +kernel
theorem dX10_isWord_5 : decode cX10_isWord 5 = .ok (.if_icmp .ne 19, 3) := by decide +kernel
theorem dX10_isWord_8 : decode cX10_isWord 8 = .ok (.aload_n 0, 1) := by decide +kernel
theorem dX10_isWord_9 : decode cX10_isWord 9 = .ok (.getfield 17, 3) := by decide +kernel
theorem dX10_isWord_12 : decode cX10_isWord 12 = .ok (.aload_n 0, 1) := by decide +kernel
theorem dX10_isWord_13 : decode cX10_isWord 13 = .ok (.getfield 28, 3) := by decide +kernel
theorem dX10_isWord_16 : decode cX10_isWord 16 = .ok (.isub, 1) := by decide +kernel
theorem dX10_isWord_17 : decode cX10_isWord 17 = .ok (.aload_n 1, 1) := by decide +kernel
theorem dX10_isWord_18 : decode cX10_isWord 18 = .ok (.invokevirtual 57, 3) := by decide +kernel
theorem dX10_isWord_21 : decode cX10_isWord 21 = .ok (.if_icmp .eq 5, 3) := by decide +kernel
theorem dX10_isWord_24 : decode cX10_isWord 24 = .ok (.iconst 0, 1) := by decide +kernel
theorem dX10_isWord_25 : decode cX10_isWord 25 = .ok (.ireturn, 1) := by decide +kernel
theorem dX10_isWord_26 : decode cX10_isWord 26 = .ok (.iconst 0, 1) := by decide +kernel
theorem dX10_isWord_27 : decode cX10_isWord 27 = .ok (.istore_n 2, 1) := by decide +kernel
theorem dX10_isWord_28 : decode cX10_isWord 28 = .ok (.iload_n 2, 1) := by decide +kernel
theorem dX10_isWord_29 : decode cX10_isWord 29 = .ok (.aload_n 1, 1) := by decide +kernel
theorem dX10_isWord_30 : decode cX10_isWord 30 = .ok (.invokevirtual 57, 3) := by decide +kernel
theorem dX10_isWord_33 : decode cX10_isWord 33 = .ok (.if_icmp .ge 29, 3) := by decide +kernel
theorem dX10_isWord_36 : decode cX10_isWord 36 = .ok (.aload_n 0, 1) := by decide +kernel
theorem dX10_isWord_37 : decode cX10_isWord 37 = .ok (.aload_n 0, 1) := by decide +kernel
theorem dX10_isWord_38 : decode cX10_isWord 38 = .ok (.getfield 28, 3) := by decide +kernel
theorem dX10_isWord_41 : decode cX10_isWord 41 = .ok (.iload_n 2, 1) := by decide +kernel
theorem dX10_isWord_42 : decode cX10_isWord 42 = .ok (.iadd, 1) := by decide +kernel
theorem dX10_isWord_43 : decode cX10_isWord 43 = .ok (.invokevirtual 20, 3) := by decide +kernel
theorem dX10_isWord_46 : decode cX10_isWord 46 = .ok (.aload_n 1, 1) := by decide +kernel
theorem dX10_isWord_47 : decode cX10_isWord 47 = .ok (.iload_n 2, 1) := by decide +kernel
theorem dX10_isWord_48 : decode cX10_isWord 48 = .ok (.invokevirtual 60, 3) := by decide +kernel
theorem dX10_isWord_51 : decode cX10_isWord 51 = .ok (.if_icmp .eq 5, 3) := by decide +kernel
theorem dX10_isWord_54 : decode cX10_isWord 54 = .ok (.iconst 0, 1) := by decide +kernel
theorem dX10_isWord_55 : decode cX10_isWord 55 = .ok (.ireturn, 1) := by decide +kernel
theorem dX10_isWord_56 : decode cX10_isWord 56 = .ok (.iinc 2 1, 3) := by decide +kernel
theorem dX10_isWord_59 : decode cX10_isWord 59 = .ok (.goto (-31), 3) := by decide +kernel
theorem dX10_isWord_62 : decode cX10_isWord 62 = .ok (.iconst 1, 1) := by decide +kernel
theorem dX10_isWord_63 : decode cX10_isWord 63 = .ok (.ireturn, 1) := by decide +kernel
set_option maxRecDepth 20000 in
theorem ggX10_isWord_J0_charAt_5068e : GoodIn wsX10_isWord wsJ0_charAt_5068e := goodIn_r _ [26, 9, 27, 28, 29, 7, 30, 14, 15, 31, 32, 33, 34, 35, 36, 37, 38, 39, 40, 41, 42, 43, 44, 45, 46, 47, 48, 49, 50, 51, 52, 53, 54, 55, 56, 57, 58, 59] rfl (by decide +kernel)
set_option maxRecDepth 20000 in
theorem gX10_isWord_J0_charAt_5068e : GoodIn wsX10_isWord (wsV RX10 60 RJ0 yJ0_charAt_5068e wsJ0_charAt_5068e) := goodIn_app (goodIn_of _ (by decide +kernel)) ggX10_isWord_J0_charAt_5068e
set_option maxRecDepth 20000 in
theorem ggX10_isWord_J0_length_8abf5 : GoodIn wsX10_isWord wsJ0_length_8abf5 := goodIn_r _ [8, 9, 10, 11, 12, 7, 13, 14, 15] rfl (by decide +kernel)
set_option maxRecDepth 20000 in
theorem gX10_isWord_J0_length_8abf5 : GoodIn wsX10_isWord (wsV RX10 57 RJ0 yJ0_length_8abf5 wsJ0_length_8abf5) := goodIn_app (goodIn_of _ (by decide +kernel)) ggX10_isWord_J0_length_8abf5
set_option maxRecDepth 20000 in
theorem ggX10_isWord_X10_byteAt : GoodIn wsX10_isWord wsX10_byteAt := goodIn_r _ [20, 21, 22, 60, 61, 62, 63, 64, 65] rfl (by decide +kernel)
set_option maxRecDepth 20000 in
theorem gX10_isWord_X10_byteAt : GoodIn wsX10_isWord (wsV RX10 20 RX10 yX10_byteAt wsX10_byteAt) := goodIn_app (goodIn_of _ (by decide +kernel)) ggX10_isWord_X10_byteAt
set_option maxHeartbeats 4000000 in
set_option maxRecDepth 100000 in
theorem S_X10_isWord (l : Launch) (D : va_G) (K : Nat → ClassId) (a : Nat → Nat) (G : gS) (q v n : Nat) (bs : Nat → Int32) (hn : n ≤ 1000) (hI : xI G) (sz : Nat) : KiZ (zS q v n bs) l yX10_isWord wsX10_isWord 5 125 D [.ref (a 1), .ref q] (xW K a G) (tK K) sz (fun (r : Int32) (_ : Unit) => (0 ≤ r.toInt ∧ r.toInt ≤ 1) ∧ (((r.toInt = 1 ∧ (G 1 3).toInt = 1 ∧ wMt (G 17) (G 1 1).toInt (G 1 4).toInt (G 1 2).toInt bs n) ∨ (r.toInt = 0 ∧ ¬ ((G 1 3).toInt = 1 ∧ wMt (G 17) (G 1 1).toInt (G 1 4).toInt (G 1 2).toInt bs n))))) (fun (_ : Unit) => (xW K a G)) := by
  unfold KiZ
  refine gz_ofW (cc := cX10_isWord) (lv := [(0, .ref (a 1)), (1, .ref q)]) (by decide) rfl (Nat.le_of_ble_eq_true rfl) rfl ?_
  intro p e s m args below meth c A Q hA hQ hZ F hr hnm
  have hts := F.2.2.2.2.1
  have w_0 : (Cond.fieldLink RX10 28 "QuietCut$Tape" "place" "I").before args s = true := hts _ (List.mem_of_getElem? (i := 3) rfl)
  have i_X10 : ∀ w ∈ u_ws RX10 TX10 6, w ∈ wsX10_isWord := fun _ h => List.mem_cons_of_mem _ (List.mem_append_right _ h)
  have w_1 : (Cond.fieldLink RX10 34 "QuietCut$Tape" "kind" "I").before args s = true := hts _ (List.mem_of_getElem? (i := 1) rfl)
  have w_2 : (Cond.fieldLink RX10 17 "QuietCut$Tape" "at" "I").before args s = true := hts _ (List.mem_of_getElem? (i := 2) rfl)
  have b1 : (0 : Int) ≤ (G 1 1).toInt ∧ (G 1 1).toInt ≤ 1000 := hI 1 1
  have b2 : (0 : Int) ≤ (G 1 2).toInt ∧ (G 1 2).toInt ≤ 1000 := hI 1 2
  have b3 : (0 : Int) ≤ (G 1 3).toInt ∧ (G 1 3).toInt ≤ 4 := hI 1 3
  have b4 : (0 : Int) ≤ (G 1 4).toInt ∧ (G 1 4).toInt ≤ 1000 := hI 1 4
  have J_28 : ∀ (fuel : Nat) (x28_2 : Int32), (2147483647 - x28_2.toInt).toNat < fuel → (0 ≤ x28_2.toInt ∧ x28_2.toInt ≤ 1000) → (∀ j : Nat, (j : Int) < x28_2.toInt → yBi (G 17) (G 1 1).toInt ((G 1 4).toInt + (j : Nat)) = (bs j &&& 255).toInt) → (((G 1 3).toInt = 1 ∧ (G 1 2).toInt - (G 1 4).toInt = (n : Int))) → gG p l e (gR 5 0 0 125) s m args below meth c D A 3 Q 0 0 (xW K a G) (tK K) [(0, .ref (a 1)), (1, .ref q), (2, .int x28_2)] 28 [] := by
    intro fuel
    induction fuel with
    | zero => intro x28_2 hm; exact absurd hm (Nat.not_lt_zero _)
    | succ fuel_28 ih_28 =>
      intro x28_2 hm_28 h28_2 wi wk
      refine g_iload_n F 2 dX10_isWord_28 rfl rfl ?_
      refine g_aload_n F 1 dX10_isWord_29 rfl rfl ?_
      refine uz_call0Vi (k := 0) (n := 0) (b := q) (As := []) (st := [.int x28_2]) F zS_st hZ (fun sz => S_J0_length_8abf5 l D q v n bs hn   sz) (cwV 0 hts gX10_isWord_J0_length_8abf5 rfl rfl rfl (by decide +kernel) ⟨Nat.le_of_ble_eq_true rfl, Nat.le_of_ble_eq_true rfl⟩) hZ.1 rfl (Nat.le_of_ble_eq_true rfl) ⟨Nat.zero_le _, Nat.zero_le _⟩ dX10_isWord_30 (fun r5 _ hw6 => ?_)
      have hw6 : r5.toInt = (n : Int) := hw6
      refine v_icmp_ge F 62 dX10_isWord_33 (by decide) x28_2.toInt r5.toInt rfl rfl (fun c7 => ?_) (fun c7 => ?_)
      · refine g_iconst F 1 dX10_isWord_62 (by decide) ?_
        exact u_zret F hA hQ hr rfl () (⟨(by decide), (Or.inl ⟨by decide, wk.1, wk.2, fun j hj => wi j (by omega)⟩)⟩) rfl rfl dX10_isWord_63
      · refine g_aload_n F 0 dX10_isWord_36 rfl rfl ?_
        refine g_aload_n F 0 dX10_isWord_37 rfl rfl ?_
        refine xg_1_4 F i_X10 w_0 dX10_isWord_38 (G 1 4) (rfl) ?_
        refine g_iload_n F 2 dX10_isWord_41 rfl rfl ?_
        refine u_iadd F dX10_isWord_42 (G 1 4).toInt x28_2.toInt rfl rfl (by omega) (by omega) (fun y8 ey8 => ?_)
        refine u_callVi (k := 0) (n := 0) (b := a 1) (As := [.int y8]) (st := []) F (fun sz => S_X10_byteAt l D K a G y8 y8.toInt rfl hI sz) (cwV 1 hts gX10_isWord_X10_byteAt rfl rfl rfl (by decide +kernel) ⟨Nat.le_of_ble_eq_true rfl, Nat.le_of_ble_eq_true rfl⟩) rfl 1 xc_1 rfl (Nat.le_of_ble_eq_true rfl) ⟨Nat.zero_le _, Nat.zero_le _⟩ dX10_isWord_43 (fun r9 _ hw10 => ?_)
        have q12 : (0 ≤ y8.toInt → r9.toInt = yBi (G 17) (G 1 1).toInt y8.toInt) := hw10.2
        have rg13 := hw10.1
        clear hw10
        refine g_aload_n F 1 dX10_isWord_46 rfl rfl ?_
        refine g_iload_n F 2 dX10_isWord_47 rfl rfl ?_
        refine uz_call0Vi (k := 0) (n := 0) (b := q) (As := [.int x28_2]) (st := [.int r9]) F zS_st hZ (fun sz => S_J0_charAt_5068e l D q v n bs hn x28_2 x28_2.toInt rfl (by omega) (by omega) sz) (cwV 1 hts gX10_isWord_J0_charAt_5068e rfl rfl rfl (by decide +kernel) ⟨Nat.le_of_ble_eq_true rfl, Nat.le_of_ble_eq_true rfl⟩) hZ.1 rfl (Nat.le_of_ble_eq_true rfl) ⟨Nat.zero_le _, Nat.zero_le _⟩ dX10_isWord_48 (fun r14 _ hw15 => ?_)
        have hz16 := hw15.2
        refine v_icmp_eq F 56 dX10_isWord_51 (by decide) r9.toInt r14.toInt rfl rfl (fun c17 => ?_) (fun c17 => ?_)
        · refine u_iinc F (fun v_ => [(2, .int v_), (0, .ref (a 1)), (1, .ref q)]) dX10_isWord_56 (j := 2) rfl x28_2.toInt 1 rfl rfl (by omega) (by omega) (by decide) (fun _ => rfl) (fun y18 ey18 => ?_)
          refine g_goto F 28 dX10_isWord_59 (by decide) ?_
          refine g_locals [(0, .ref (a 1)), (1, .ref q), (2, .int y18)] [1, 2, 0] rfl ?_
          exact ih_28 y18 (by omega) (by have h9 := ti_rng y18; omega) (all_1 wi (by omega) (by omega) (by have h9 := q12 (by omega); have h8 := hz16; rw [show (G 1 4).toInt + ((x28_2.toInt.toNat : Nat) : Int) = y8.toInt by omega]; omega)) (by (first | omega | (simp only [Int32.reduceToInt, true_and, and_true, ne_eq, not_true_eq_false, false_and, or_false, false_or, true_or, or_true, false_implies] <;> omega)))
        · refine g_iconst F 0 dX10_isWord_54 (by decide) ?_
          exact u_zret F hA hQ hr rfl () (⟨(by decide), (Or.inr ⟨by decide, fun h9 => by have h8 := h9.2.2 x28_2.toInt.toNat (by omega); rw [show (G 1 4).toInt + ((x28_2.toInt.toNat : Nat) : Int) = y8.toInt by omega] at h8; have h7 := q12 (by omega); have h6 := hz16; omega⟩)⟩) rfl rfl dX10_isWord_55
  refine g_aload_n F 0 dX10_isWord_0 rfl rfl ?_
  refine xg_1_3 F i_X10 w_1 dX10_isWord_1 (G 1 3) (rfl) ?_
  refine g_iconst F 1 dX10_isWord_4 (by decide) ?_
  refine v_icmp_ne F 24 dX10_isWord_5 (by decide) (G 1 3).toInt 1 rfl rfl (fun c19 => ?_) (fun c19 => ?_)
  · refine g_iconst F 0 dX10_isWord_24 (by decide) ?_
    exact u_zret F hA hQ hr rfl () (⟨(by decide), (Or.inr ⟨by decide, fun h9 => by have h8 := h9.2.1; omega⟩)⟩) rfl rfl dX10_isWord_25
  · refine g_aload_n F 0 dX10_isWord_8 rfl rfl ?_
    refine xg_1_2 F i_X10 w_2 dX10_isWord_9 (G 1 2) (rfl) ?_
    refine g_aload_n F 0 dX10_isWord_12 rfl rfl ?_
    refine xg_1_4 F i_X10 w_0 dX10_isWord_13 (G 1 4) (rfl) ?_
    refine u_isub F dX10_isWord_16 (G 1 2).toInt (G 1 4).toInt rfl rfl (by omega) (by omega) (fun y20 ey20 => ?_)
    refine g_aload_n F 1 dX10_isWord_17 rfl rfl ?_
    refine uz_call0Vi (k := 0) (n := 0) (b := q) (As := []) (st := [.int y20]) F zS_st hZ (fun sz => S_J0_length_8abf5 l D q v n bs hn   sz) (cwV 0 hts gX10_isWord_J0_length_8abf5 rfl rfl rfl (by decide +kernel) ⟨Nat.le_of_ble_eq_true rfl, Nat.le_of_ble_eq_true rfl⟩) hZ.1 rfl (Nat.le_of_ble_eq_true rfl) ⟨Nat.zero_le _, Nat.zero_le _⟩ dX10_isWord_18 (fun r21 _ hw22 => ?_)
    have hw22 : r21.toInt = (n : Int) := hw22
    refine v_icmp_eq F 26 dX10_isWord_21 (by decide) y20.toInt r21.toInt rfl rfl (fun c23 => ?_) (fun c23 => ?_)
    · refine g_iconst F 0 dX10_isWord_26 (by decide) ?_
      refine g_istore_n F [(2, .int 0), (0, .ref (a 1)), (1, .ref q)] dX10_isWord_27 rfl (by decide) rfl ?_
      refine g_locals [(0, .ref (a 1)), (1, .ref q), (2, .int 0)] [1, 2, 0] rfl ?_
      exact J_28 _ 0 (Nat.lt_succ_self _) (by decide) (fun j hj => by have h9 : (j : Int) < 0 := hj; omega) (by (first | omega | (simp only [Int32.reduceToInt, true_and, and_true, ne_eq, not_true_eq_false, false_and, or_false, false_or, true_or, or_true, false_implies] <;> omega)))
    · refine g_iconst F 0 dX10_isWord_24 (by decide) ?_
      exact u_zret F hA hQ hr rfl () (⟨(by decide), (Or.inr ⟨by decide, fun h9 => by have h8 := h9.2.1; omega⟩)⟩) rfl rfl dX10_isWord_25

theorem dX10_readWord_0 : decode cX10_readWord 0 = .ok (.aload_n 0, 1) := by decide +kernel
theorem dX10_readWord_1 : decode cX10_readWord 1 = .ok (.getfield 17, 3) := by decide +kernel
theorem dX10_readWord_4 : decode cX10_readWord 4 = .ok (.aload_n 0, 1) := by decide +kernel
theorem dX10_readWord_5 : decode cX10_readWord 5 = .ok (.getfield 13, 3) := by decide +kernel
theorem dX10_readWord_8 : decode cX10_readWord 8 = .ok (.if_icmp .ge 30, 3) := by decide +kernel
theorem dX10_readWord_11 : decode cX10_readWord 11 = .ok (.aload_n 0, 1) := by decide +kernel
theorem dX10_readWord_12 : decode cX10_readWord 12 = .ok (.aload_n 0, 1) := by decide +kernel
theorem dX10_readWord_13 : decode cX10_readWord 13 = .ok (.getfield 17, 3) := by decide +kernel
theorem dX10_readWord_16 : decode cX10_readWord 16 = .ok (.invokevirtual 20, 3) := by decide +kernel
theorem dX10_readWord_19 : decode cX10_readWord 19 = .ok (.invokestatic 37, 3) := by decide +kernel
theorem dX10_readWord_22 : decode cX10_readWord 22 = .ok (.ifCond .eq 16, 3) := by decide +kernel
theorem dX10_readWord_25 : decode cX10_readWord 25 = .ok (.aload_n 0, 1) := by decide +kernel
theorem dX10_readWord_26 : decode cX10_readWord 26 = .ok (.dup, 1) := by decide +kernel
theorem dX10_readWord_27 : decode cX10_readWord 27 = .ok (.getfield 17, 3) := by decide +kernel
theorem dX10_readWord_30 : decode cX10_readWord 30 = .ok (.iconst 1, 1) := by decide +kernel
theorem dX10_readWord_31 : decode cX10_readWord 31 = .ok (.iadd, 1) := by decide +kernel
theorem dX10_readWord_32 : decode cX10_readWord 32 = .ok (.putfield 17, 3) := by decide +kernel
theorem dX10_readWord_35 : decode cX10_readWord 35 = .ok (.goto (-35), 3) := by decide +kernel
theorem dX10_readWord_38 : decode cX10_readWord 38 = .ok (.aload_n 0, 1) := by decide +kernel
theorem dX10_readWord_39 : decode cX10_readWord 39 = .ok (.aload_n 0, 1) := by decide +kernel
theorem dX10_readWord_40 : decode cX10_readWord 40 = .ok (.getfield 17, 3) := by decide +kernel
theorem dX10_readWord_43 : decode cX10_readWord 43 = .ok (.aload_n 0, 1) := by decide +kernel
theorem dX10_readWord_44 : decode cX10_readWord 44 = .ok (.getfield 28, 3) := by decide +kernel
theorem dX10_readWord_47 : decode cX10_readWord 47 = .ok (.isub, 1) := by decide +kernel
theorem dX10_readWord_48 : decode cX10_readWord 48 = .ok (.bipush 8, 2) := by decide +kernel
theorem dX10_readWord_50 : decode cX10_readWord 50 = .ok (.if_icmp .gt 7, 3) := by decide +kernel
theorem dX10_readWord_53 : decode cX10_readWord 53 = .ok (.iconst 1, 1) := by decide +kernel
theorem dX10_readWord_54 : decode cX10_readWord 54 = .ok (.goto 4, 3) := by decide +kernel
theorem dX10_readWord_57 : decode cX10_readWord 57 = .ok (.iconst 4, 1) := by decide +kernel
theorem dX10_readWord_58 : decode cX10_readWord 58 = .ok (.putfield 34, 3) := by decide +kernel
theorem dX10_readWord_61 : decode cX10_readWord 61 = .ok (.aload_n 0, 1) := by decide +kernel
theorem dX10_readWord_62 : decode cX10_readWord 62 = .ok (.aload_n 0, 1) := by decide +kernel
theorem dX10_readWord_63 : decode cX10_readWord 63 = .ok (.getfield 17, 3) := by decide +kernel
theorem dX10_readWord_66 : decode cX10_readWord 66 = .ok (.aload_n 0, 1) := by decide +kernel
theorem dX10_readWord_67 : decode cX10_readWord 67 = .ok (.getfield 28, 3) := by decide +kernel
theorem dX10_readWord_70 : decode cX10_readWord 70 = .ok (.isub, 1) := by decide +kernel
theorem dX10_readWord_71 : decode cX10_readWord 71 = .ok (.iconst 1, 1) := by decide +kernel
theorem dX10_readWord_72 : decode cX10_readWord 72 = .ok (.if_icmp .ne 7, 3) := by decide +kernel
theorem dX10_readWord_75 : decode cX10_readWord 75 = .ok (.iload_n 1, 1) := by decide +kernel
theorem dX10_readWord_76 : decode cX10_readWord 76 = .ok (.goto 4, 3) := by decide +kernel
theorem dX10_readWord_79 : decode cX10_readWord 79 = .ok (.iconst 0, 1) := by decide +kernel
theorem dX10_readWord_80 : decode cX10_readWord 80 = .ok (.putfield 31, 3) := by decide +kernel
theorem dX10_readWord_83 : decode cX10_readWord 83 = .ok (.return_, 1) := by decide +kernel
set_option maxRecDepth 20000 in
theorem ggX10_readWord_X10_byteAt : GoodIn wsX10_readWord wsX10_byteAt := goodIn_r _ [10, 2, 11, 15, 16, 17, 18, 19, 20] rfl (by decide +kernel)
set_option maxRecDepth 20000 in
theorem gX10_readWord_X10_byteAt : GoodIn wsX10_readWord (wsV RX10 20 RX10 yX10_byteAt wsX10_byteAt) := goodIn_app (goodIn_of _ (by decide +kernel)) ggX10_readWord_X10_byteAt
set_option maxRecDepth 20000 in
theorem ggX10_readWord_X10_isLetter : GoodIn wsX10_readWord wsX10_isLetter := goodIn_r _ [14] rfl (by decide +kernel)
set_option maxRecDepth 20000 in
theorem gX10_readWord_X10_isLetter : GoodIn wsX10_readWord (va_wsS RX10 37 yX10_isLetter wsX10_isLetter) := goodIn_app (goodIn_of _ (by decide +kernel)) ggX10_readWord_X10_isLetter
set_option maxHeartbeats 4000000 in
set_option maxRecDepth 100000 in
theorem S_X10_readWord (l : Launch) (D : va_G) (K : Nat → ClassId) (a : Nat → Nat) (G : gS) (p0 : Int32) (s0 : Int) (e0 : p0.toInt = s0) (hI : xI G) (sz : Nat) : Kv l yX10_readWord wsX10_readWord 2 61 0 0 D [.ref (a 1), .int p0] (xW K a G) (tK K) sz (fun (G' : gS) => (xI G') ∧ (gu_un xcd [103, 104, 106] G G') ∧ (tRun tLe (G 17) (G 1 1).toInt (G 1 2).toInt (G' 1 2).toInt) ∧ ((((G' 1 2).toInt - (G 1 4).toInt ≤ 8 ∧ (G' 1 3).toInt = 1) ∨ (8 < (G' 1 2).toInt - (G 1 4).toInt ∧ (G' 1 3).toInt = 4))) ∧ ((((G' 1 2).toInt - (G 1 4).toInt = 1 ∧ (G' 1 5).toInt = s0) ∨ ((G' 1 2).toInt - (G 1 4).toInt ≠ 1 ∧ (G' 1 5).toInt = 0)))) (fun (G' : gS) => (xW K a G')) (fun _ => (tK K)) := by
  unfold Kv
  refine g_ofW (cc := cX10_readWord) (lv := [(0, .ref (a 1)), (1, .int p0)]) (by decide) rfl (Nat.le_of_ble_eq_true rfl) rfl ?_
  intro p e s m args below meth c A Q hA hQ F hr hnm
  have hts := F.2.2.2.2.1
  have w_0 : (Cond.fieldLink RX10 17 "QuietCut$Tape" "at" "I").before args s = true := hts _ (List.mem_of_getElem? (i := 1) rfl)
  have i_X10 : ∀ w ∈ u_ws RX10 TX10 6, w ∈ wsX10_readWord := fun _ h => List.mem_cons_of_mem _ (List.mem_append_right _ h)
  have w_1 : (Cond.fieldLink RX10 28 "QuietCut$Tape" "place" "I").before args s = true := hts _ (List.mem_of_getElem? (i := 3) rfl)
  have w_2 : (Cond.fieldLink RX10 34 "QuietCut$Tape" "kind" "I").before args s = true := hts _ (List.mem_of_getElem? (i := 4) rfl)
  have w_3 : (Cond.fieldLink RX10 31 "QuietCut$Tape" "value" "I").before args s = true := hts _ (List.mem_of_getElem? (i := 5) rfl)
  have w_4 : (Cond.fieldLink RX10 13 "QuietCut$Tape" "length" "I").before args s = true := hts _ (List.mem_of_getElem? (i := 2) rfl)
  have rg0 : -2147483648 ≤ s0 ∧ s0 ≤ 2147483647 := e0 ▸ ti_rng p0
  have b1 : (0 : Int) ≤ (G 1 1).toInt ∧ (G 1 1).toInt ≤ 1000 := hI 1 1
  have b2 : (0 : Int) ≤ (G 1 2).toInt ∧ (G 1 2).toInt ≤ 1000 := hI 1 2
  have b3 : (0 : Int) ≤ (G 1 4).toInt ∧ (G 1 4).toInt ≤ 1000 := hI 1 4
  have J_38 : ∀  (Gj38 : gS), (xI Gj38) → (gu_un xcd [103] G Gj38) → (tRun tLe (G 17) (G 1 1).toInt (G 1 2).toInt (Gj38 1 2).toInt) → gG p l e (gR 2 0 0 61) s m args below meth c D A 2 Q 0 0 (xW K a Gj38) (tK K) [(0, .ref (a 1)), (1, .int p0)] 38 [] := by
    intro Gj38 jI38 jU38 rr
    refine g_aload_n F 0 dX10_readWord_38 rfl rfl ?_
    refine g_aload_n F 0 dX10_readWord_39 rfl rfl ?_
    refine xg_1_2 F i_X10 w_0 dX10_readWord_40 (Gj38 1 2) (rfl) ?_
    refine g_aload_n F 0 dX10_readWord_43 rfl rfl ?_
    refine xg_1_4 F i_X10 w_1 dX10_readWord_44 (G 1 4) (jU38 1 4 (by decide)) ?_
    have b5 : (0 : Int) ≤ (Gj38 1 2).toInt ∧ (Gj38 1 2).toInt ≤ 1000 := jI38 1 2
    refine u_isub F dX10_readWord_47 (Gj38 1 2).toInt (G 1 4).toInt rfl rfl (by omega) (by omega) (fun y4 ey4 => ?_)
    refine g_bipush F 8 dX10_readWord_48 (by decide) ?_
    refine v_icmp_gt F 57 dX10_readWord_50 (by decide) y4.toInt 8 rfl rfl (fun c6 => ?_) (fun c6 => ?_)
    · refine g_iconst F 4 dX10_readWord_57 (by decide) ?_
      refine xp_1_3 F i_X10 w_2 dX10_readWord_58 ?_
      refine g_aload_n F 0 dX10_readWord_61 rfl rfl ?_
      refine g_aload_n F 0 dX10_readWord_62 rfl rfl ?_
      refine xg_1_2 F i_X10 w_0 dX10_readWord_63 (Gj38 1 2) (rfl) ?_
      refine g_aload_n F 0 dX10_readWord_66 rfl rfl ?_
      refine xg_1_4 F i_X10 w_1 dX10_readWord_67 (G 1 4) (jU38 1 4 (by decide)) ?_
      refine u_isub F dX10_readWord_70 (Gj38 1 2).toInt (G 1 4).toInt rfl rfl (by omega) (by omega) (fun y7 ey7 => ?_)
      refine g_iconst F 1 dX10_readWord_71 (by decide) ?_
      refine v_icmp_ne F 79 dX10_readWord_72 (by decide) y7.toInt 1 rfl rfl (fun c8 => ?_) (fun c8 => ?_)
      · refine g_iconst F 0 dX10_readWord_79 (by decide) ?_
        refine xp_1_5 F i_X10 w_3 dX10_readWord_80 ?_
        exact u_vret F hA hQ hr (gu_up (gu_up Gj38 1 3 4) 1 5 0) (⟨(gu_I.up (j := 1) (k := 5) (v := 0) (gu_I.up (j := 1) (k := 3) (v := 4) jI38 (show (0 : Int) ≤ (4 : Int32).toInt by decide) (show (4 : Int32).toInt ≤ 4 by decide)) (ti_rng _).1 (ti_rng _).2), (gu_un.up (j := 1) (k := 5) (v := 0) (gu_un.up (j := 1) (k := 3) (v := 4) (gu_un.tr gu_un.rf (gu_un.su jU38 rfl)) (show (104 : Nat) ∈ ([103, 104, 106] : List Nat) by decide)) (show (106 : Nat) ∈ ([103, 104, 106] : List Nat) by decide)), (by rw [show (gu_up (gu_up Gj38 1 3 4) 1 5 0) 1 2 = (Gj38 1 2) from rfl]; exact rr), (by show ((((gu_up (gu_up Gj38 1 3 4) 1 5 0) 1 2).toInt - (G 1 4).toInt ≤ 8 ∧ ((gu_up (gu_up Gj38 1 3 4) 1 5 0) 1 3).toInt = 1) ∨ (8 < ((gu_up (gu_up Gj38 1 3 4) 1 5 0) 1 2).toInt - (G 1 4).toInt ∧ ((gu_up (gu_up Gj38 1 3 4) 1 5 0) 1 3).toInt = 4)); have e9_1_2 : (gu_up (gu_up Gj38 1 3 4) 1 5 0) 1 2 = (Gj38 1 2) := rfl; have e9_1_3 : (gu_up (gu_up Gj38 1 3 4) 1 5 0) 1 3 = 4 := rfl; (try simp only [e9_1_2, e9_1_3, true_and, and_true]) <;> (first | omega | (simp only [Int32.reduceToInt, true_and, and_true, ne_eq, not_true_eq_false, false_and, or_false, false_or, true_or, or_true, false_implies] <;> omega))), (by show ((((gu_up (gu_up Gj38 1 3 4) 1 5 0) 1 2).toInt - (G 1 4).toInt = 1 ∧ ((gu_up (gu_up Gj38 1 3 4) 1 5 0) 1 5).toInt = s0) ∨ (((gu_up (gu_up Gj38 1 3 4) 1 5 0) 1 2).toInt - (G 1 4).toInt ≠ 1 ∧ ((gu_up (gu_up Gj38 1 3 4) 1 5 0) 1 5).toInt = 0)); have e9_1_2 : (gu_up (gu_up Gj38 1 3 4) 1 5 0) 1 2 = (Gj38 1 2) := rfl; have e9_1_5 : (gu_up (gu_up Gj38 1 3 4) 1 5 0) 1 5 = 0 := rfl; (try simp only [e9_1_2, e9_1_5, true_and, and_true]) <;> (first | omega | (simp only [Int32.reduceToInt, true_and, and_true, ne_eq, not_true_eq_false, false_and, or_false, false_or, true_or, or_true, false_implies] <;> omega)))⟩) rfl rfl dX10_readWord_83
      · refine g_iload_n F 1 dX10_readWord_75 rfl rfl ?_
        refine g_goto F 80 dX10_readWord_76 (by decide) ?_
        refine xp_1_5 F i_X10 w_3 dX10_readWord_80 ?_
        exact u_vret F hA hQ hr (gu_up (gu_up Gj38 1 3 4) 1 5 p0) (⟨(gu_I.up (j := 1) (k := 5) (v := p0) (gu_I.up (j := 1) (k := 3) (v := 4) jI38 (show (0 : Int) ≤ (4 : Int32).toInt by decide) (show (4 : Int32).toInt ≤ 4 by decide)) (ti_rng _).1 (ti_rng _).2), (gu_un.up (j := 1) (k := 5) (v := p0) (gu_un.up (j := 1) (k := 3) (v := 4) (gu_un.tr gu_un.rf (gu_un.su jU38 rfl)) (show (104 : Nat) ∈ ([103, 104, 106] : List Nat) by decide)) (show (106 : Nat) ∈ ([103, 104, 106] : List Nat) by decide)), (by rw [show (gu_up (gu_up Gj38 1 3 4) 1 5 p0) 1 2 = (Gj38 1 2) from rfl]; exact rr), (by show ((((gu_up (gu_up Gj38 1 3 4) 1 5 p0) 1 2).toInt - (G 1 4).toInt ≤ 8 ∧ ((gu_up (gu_up Gj38 1 3 4) 1 5 p0) 1 3).toInt = 1) ∨ (8 < ((gu_up (gu_up Gj38 1 3 4) 1 5 p0) 1 2).toInt - (G 1 4).toInt ∧ ((gu_up (gu_up Gj38 1 3 4) 1 5 p0) 1 3).toInt = 4)); have e9_1_2 : (gu_up (gu_up Gj38 1 3 4) 1 5 p0) 1 2 = (Gj38 1 2) := rfl; have e9_1_3 : (gu_up (gu_up Gj38 1 3 4) 1 5 p0) 1 3 = 4 := rfl; (try simp only [e9_1_2, e9_1_3, true_and, and_true]) <;> (first | omega | (simp only [Int32.reduceToInt, true_and, and_true, ne_eq, not_true_eq_false, false_and, or_false, false_or, true_or, or_true, false_implies] <;> omega))), (by show ((((gu_up (gu_up Gj38 1 3 4) 1 5 p0) 1 2).toInt - (G 1 4).toInt = 1 ∧ ((gu_up (gu_up Gj38 1 3 4) 1 5 p0) 1 5).toInt = s0) ∨ (((gu_up (gu_up Gj38 1 3 4) 1 5 p0) 1 2).toInt - (G 1 4).toInt ≠ 1 ∧ ((gu_up (gu_up Gj38 1 3 4) 1 5 p0) 1 5).toInt = 0)); have e9_1_2 : (gu_up (gu_up Gj38 1 3 4) 1 5 p0) 1 2 = (Gj38 1 2) := rfl; have e9_1_5 : (gu_up (gu_up Gj38 1 3 4) 1 5 p0) 1 5 = p0 := rfl; (try simp only [e9_1_2, e9_1_5, true_and, and_true]) <;> (first | omega | (simp only [Int32.reduceToInt, true_and, and_true, ne_eq, not_true_eq_false, false_and, or_false, false_or, true_or, or_true, false_implies] <;> omega)))⟩) rfl rfl dX10_readWord_83
    · refine g_iconst F 1 dX10_readWord_53 (by decide) ?_
      refine g_goto F 58 dX10_readWord_54 (by decide) ?_
      refine xp_1_3 F i_X10 w_2 dX10_readWord_58 ?_
      refine g_aload_n F 0 dX10_readWord_61 rfl rfl ?_
      refine g_aload_n F 0 dX10_readWord_62 rfl rfl ?_
      refine xg_1_2 F i_X10 w_0 dX10_readWord_63 (Gj38 1 2) (rfl) ?_
      refine g_aload_n F 0 dX10_readWord_66 rfl rfl ?_
      refine xg_1_4 F i_X10 w_1 dX10_readWord_67 (G 1 4) (jU38 1 4 (by decide)) ?_
      refine u_isub F dX10_readWord_70 (Gj38 1 2).toInt (G 1 4).toInt rfl rfl (by omega) (by omega) (fun y9 ey9 => ?_)
      refine g_iconst F 1 dX10_readWord_71 (by decide) ?_
      refine v_icmp_ne F 79 dX10_readWord_72 (by decide) y9.toInt 1 rfl rfl (fun c10 => ?_) (fun c10 => ?_)
      · refine g_iconst F 0 dX10_readWord_79 (by decide) ?_
        refine xp_1_5 F i_X10 w_3 dX10_readWord_80 ?_
        exact u_vret F hA hQ hr (gu_up (gu_up Gj38 1 3 1) 1 5 0) (⟨(gu_I.up (j := 1) (k := 5) (v := 0) (gu_I.up (j := 1) (k := 3) (v := 1) jI38 (show (0 : Int) ≤ (1 : Int32).toInt by decide) (show (1 : Int32).toInt ≤ 4 by decide)) (ti_rng _).1 (ti_rng _).2), (gu_un.up (j := 1) (k := 5) (v := 0) (gu_un.up (j := 1) (k := 3) (v := 1) (gu_un.tr gu_un.rf (gu_un.su jU38 rfl)) (show (104 : Nat) ∈ ([103, 104, 106] : List Nat) by decide)) (show (106 : Nat) ∈ ([103, 104, 106] : List Nat) by decide)), (by rw [show (gu_up (gu_up Gj38 1 3 1) 1 5 0) 1 2 = (Gj38 1 2) from rfl]; exact rr), (by show ((((gu_up (gu_up Gj38 1 3 1) 1 5 0) 1 2).toInt - (G 1 4).toInt ≤ 8 ∧ ((gu_up (gu_up Gj38 1 3 1) 1 5 0) 1 3).toInt = 1) ∨ (8 < ((gu_up (gu_up Gj38 1 3 1) 1 5 0) 1 2).toInt - (G 1 4).toInt ∧ ((gu_up (gu_up Gj38 1 3 1) 1 5 0) 1 3).toInt = 4)); have e9_1_2 : (gu_up (gu_up Gj38 1 3 1) 1 5 0) 1 2 = (Gj38 1 2) := rfl; have e9_1_3 : (gu_up (gu_up Gj38 1 3 1) 1 5 0) 1 3 = 1 := rfl; (try simp only [e9_1_2, e9_1_3, true_and, and_true]) <;> (first | omega | (simp only [Int32.reduceToInt, true_and, and_true, ne_eq, not_true_eq_false, false_and, or_false, false_or, true_or, or_true, false_implies] <;> omega))), (by show ((((gu_up (gu_up Gj38 1 3 1) 1 5 0) 1 2).toInt - (G 1 4).toInt = 1 ∧ ((gu_up (gu_up Gj38 1 3 1) 1 5 0) 1 5).toInt = s0) ∨ (((gu_up (gu_up Gj38 1 3 1) 1 5 0) 1 2).toInt - (G 1 4).toInt ≠ 1 ∧ ((gu_up (gu_up Gj38 1 3 1) 1 5 0) 1 5).toInt = 0)); have e9_1_2 : (gu_up (gu_up Gj38 1 3 1) 1 5 0) 1 2 = (Gj38 1 2) := rfl; have e9_1_5 : (gu_up (gu_up Gj38 1 3 1) 1 5 0) 1 5 = 0 := rfl; (try simp only [e9_1_2, e9_1_5, true_and, and_true]) <;> (first | omega | (simp only [Int32.reduceToInt, true_and, and_true, ne_eq, not_true_eq_false, false_and, or_false, false_or, true_or, or_true, false_implies] <;> omega)))⟩) rfl rfl dX10_readWord_83
      · refine g_iload_n F 1 dX10_readWord_75 rfl rfl ?_
        refine g_goto F 80 dX10_readWord_76 (by decide) ?_
        refine xp_1_5 F i_X10 w_3 dX10_readWord_80 ?_
        exact u_vret F hA hQ hr (gu_up (gu_up Gj38 1 3 1) 1 5 p0) (⟨(gu_I.up (j := 1) (k := 5) (v := p0) (gu_I.up (j := 1) (k := 3) (v := 1) jI38 (show (0 : Int) ≤ (1 : Int32).toInt by decide) (show (1 : Int32).toInt ≤ 4 by decide)) (ti_rng _).1 (ti_rng _).2), (gu_un.up (j := 1) (k := 5) (v := p0) (gu_un.up (j := 1) (k := 3) (v := 1) (gu_un.tr gu_un.rf (gu_un.su jU38 rfl)) (show (104 : Nat) ∈ ([103, 104, 106] : List Nat) by decide)) (show (106 : Nat) ∈ ([103, 104, 106] : List Nat) by decide)), (by rw [show (gu_up (gu_up Gj38 1 3 1) 1 5 p0) 1 2 = (Gj38 1 2) from rfl]; exact rr), (by show ((((gu_up (gu_up Gj38 1 3 1) 1 5 p0) 1 2).toInt - (G 1 4).toInt ≤ 8 ∧ ((gu_up (gu_up Gj38 1 3 1) 1 5 p0) 1 3).toInt = 1) ∨ (8 < ((gu_up (gu_up Gj38 1 3 1) 1 5 p0) 1 2).toInt - (G 1 4).toInt ∧ ((gu_up (gu_up Gj38 1 3 1) 1 5 p0) 1 3).toInt = 4)); have e9_1_2 : (gu_up (gu_up Gj38 1 3 1) 1 5 p0) 1 2 = (Gj38 1 2) := rfl; have e9_1_3 : (gu_up (gu_up Gj38 1 3 1) 1 5 p0) 1 3 = 1 := rfl; (try simp only [e9_1_2, e9_1_3, true_and, and_true]) <;> (first | omega | (simp only [Int32.reduceToInt, true_and, and_true, ne_eq, not_true_eq_false, false_and, or_false, false_or, true_or, or_true, false_implies] <;> omega))), (by show ((((gu_up (gu_up Gj38 1 3 1) 1 5 p0) 1 2).toInt - (G 1 4).toInt = 1 ∧ ((gu_up (gu_up Gj38 1 3 1) 1 5 p0) 1 5).toInt = s0) ∨ (((gu_up (gu_up Gj38 1 3 1) 1 5 p0) 1 2).toInt - (G 1 4).toInt ≠ 1 ∧ ((gu_up (gu_up Gj38 1 3 1) 1 5 p0) 1 5).toInt = 0)); have e9_1_2 : (gu_up (gu_up Gj38 1 3 1) 1 5 p0) 1 2 = (Gj38 1 2) := rfl; have e9_1_5 : (gu_up (gu_up Gj38 1 3 1) 1 5 p0) 1 5 = p0 := rfl; (try simp only [e9_1_2, e9_1_5, true_and, and_true]) <;> (first | omega | (simp only [Int32.reduceToInt, true_and, and_true, ne_eq, not_true_eq_false, false_and, or_false, false_or, true_or, or_true, false_implies] <;> omega)))⟩) rfl rfl dX10_readWord_83
  have J_0 : ∀ (fuel : Nat) (Gj0 : gS), (2147483647 - (Gj0 1 2).toInt).toNat < fuel → (xI Gj0) → (gu_un xcd [103] G Gj0) → (tPre tLe (G 17) (G 1 1).toInt (G 1 2).toInt (Gj0 1 2).toInt) → gG p l e (gR 2 0 0 61) s m args below meth c D A 2 Q 0 0 (xW K a Gj0) (tK K) [(0, .ref (a 1)), (1, .int p0)] 0 [] := by
    intro fuel
    induction fuel with
    | zero => intro Gj0 hm; exact absurd hm (Nat.not_lt_zero _)
    | succ fuel_0 ih_0 =>
      intro Gj0 hm_0 jI0 jU0 wp
      refine g_aload_n F 0 dX10_readWord_0 rfl rfl ?_
      refine xg_1_2 F i_X10 w_0 dX10_readWord_1 (Gj0 1 2) (rfl) ?_
      refine g_aload_n F 0 dX10_readWord_4 rfl rfl ?_
      refine xg_1_1 F i_X10 w_4 dX10_readWord_5 (G 1 1) (jU0 1 1 (by decide)) ?_
      have b11 : (0 : Int) ≤ (Gj0 1 2).toInt ∧ (Gj0 1 2).toInt ≤ 1000 := jI0 1 2
      refine v_icmp_ge F 38 dX10_readWord_8 (by decide) (Gj0 1 2).toInt (G 1 1).toInt rfl rfl (fun c12 => ?_) (fun c12 => ?_)
      · exact J_38 Gj0 jI0 (gu_un.tr gu_un.rf (gu_un.su jU0 rfl)) (⟨wp, fun h8 => by have h7 : tLe _ := h8.2; omega⟩)
      · refine g_aload_n F 0 dX10_readWord_11 rfl rfl ?_
        refine g_aload_n F 0 dX10_readWord_12 rfl rfl ?_
        refine xg_1_2 F i_X10 w_0 dX10_readWord_13 (Gj0 1 2) (rfl) ?_
        refine u_callVi (k := 0) (n := 0) (b := a 1) (As := [.int (Gj0 1 2)]) (st := []) F (fun sz => S_X10_byteAt l D K a Gj0 (Gj0 1 2) (Gj0 1 2).toInt rfl jI0 sz) (cwV 1 hts gX10_readWord_X10_byteAt rfl rfl rfl (by decide +kernel) ⟨Nat.le_of_ble_eq_true rfl, Nat.le_of_ble_eq_true rfl⟩) rfl 1 xc_1 rfl (Nat.le_of_ble_eq_true rfl) ⟨Nat.zero_le _, Nat.zero_le _⟩ dX10_readWord_16 (fun r13 _ hw14 => ?_)
        have q16 : (0 ≤ (Gj0 1 2).toInt → r13.toInt = yBi (G 17) (G 1 1).toInt (Gj0 1 2).toInt) := by have h9 := hw14.2; (try simp only [(show Gj0 1 1 = (G 1 1) from jU0 1 1 (by decide)), (show Gj0 17 = (G 17) from (show Gj0 17 = G 17 from funext fun k_ => jU0 17 k_ (show (1700 : Nat) ∉ ([103] : List Nat) by decide)))] at h9); first | exact h9 | omega
        have rg17 := hw14.1
        clear hw14
        refine u_call0 (k := 0) (n := 0) (As := [.int r13]) (st := []) F (fun sz => S_X10_isLetter l D r13 r13.toInt rfl sz) (va_cwS 1 hts gX10_readWord_X10_isLetter rfl rfl rfl (by decide +kernel) ⟨Nat.le_of_ble_eq_true rfl, Nat.le_of_ble_eq_true rfl⟩) rfl (Nat.le_of_ble_eq_true rfl) ⟨Nat.zero_le _, Nat.zero_le _⟩ dX10_readWord_19 (fun r18 _ hw19 => ?_)
        rcases hw19 with ⟨rfl, q21⟩ | ⟨rfl, q22⟩
        · refine v_if_eq F 38 dX10_readWord_22 (by decide) 1 rfl (fun c23 => absurd c23 (by decide)) (fun c23 => ?_)
          refine g_aload_n F 0 dX10_readWord_25 rfl rfl ?_
          refine g_dup F dX10_readWord_26 rfl ?_
          refine xg_1_2 F i_X10 w_0 dX10_readWord_27 (Gj0 1 2) (rfl) ?_
          refine g_iconst F 1 dX10_readWord_30 (by decide) ?_
          refine u_iadd F dX10_readWord_31 (Gj0 1 2).toInt 1 rfl rfl (by omega) (by omega) (fun y24 ey24 => ?_)
          refine xp_1_2 F i_X10 w_0 dX10_readWord_32 ?_
          refine g_goto F 0 dX10_readWord_35 (by decide) ?_
          exact ih_0 (gu_up Gj0 1 2 y24) (by have e9_1_2 : (gu_up Gj0 1 2 y24) 1 2 = y24 := rfl; (try simp only [e9_1_2, true_and, and_true]) <;> omega) (gu_I.up (j := 1) (k := 2) (v := y24) jI0 (show (0 : Int) ≤ Int32.toInt y24 by omega) (show Int32.toInt y24 ≤ 1000 by omega)) (gu_un.up (j := 1) (k := 2) (v := y24) (gu_un.tr gu_un.rf (gu_un.su jU0 rfl)) (show (103 : Nat) ∈ ([103] : List Nat) by decide)) (by have h9 := q16 (by omega); rw [show (gu_up Gj0 1 2 y24) 1 2 = y24 from rfl]; exact tPre.step wp (by omega) (show tLe _ by rw [← h9]; omega) (by omega))
        · refine v_if_eq F 38 dX10_readWord_22 (by decide) 0 rfl (fun c25 => ?_) (fun c25 => absurd c25 (by decide))
          exact J_38 Gj0 jI0 (gu_un.tr gu_un.rf (gu_un.su jU0 rfl)) (⟨wp, fun h8 => by have h9 := q16 (by omega); have h7 : tLe _ := h8.2; omega⟩)
  exact J_0 _ G (Nat.lt_succ_self _) hI gu_un.rf (tPre.rf)

theorem dX10_readNumber_0 : decode cX10_readNumber 0 = .ok (.aload_n 0, 1) := by decide +kernel
theorem dX10_readNumber_1 : decode cX10_readNumber 1 = .ok (.getfield 17, 3) := by decide +kernel
theorem dX10_readNumber_4 : decode cX10_readNumber 4 = .ok (.aload_n 0, 1) := by decide +kernel
theorem dX10_readNumber_5 : decode cX10_readNumber 5 = .ok (.getfield 13, 3) := by decide +kernel
theorem dX10_readNumber_8 : decode cX10_readNumber 8 = .ok (.if_icmp .ge 53, 3) := by decide +kernel
theorem dX10_readNumber_11 : decode cX10_readNumber 11 = .ok (.aload_n 0, 1) := by decide +kernel
theorem dX10_readNumber_12 : decode cX10_readNumber 12 = .ok (.aload_n 0, 1) := by decide +kernel
theorem dX10_readNumber_13 : decode cX10_readNumber 13 = .ok (.getfield 17, 3) := by decide +kernel
theorem dX10_readNumber_16 : decode cX10_readNumber 16 = .ok (.invokevirtual 20, 3) := by decide +kernel
theorem dX10_readNumber_19 : decode cX10_readNumber 19 = .ok (.invokestatic 44, 3) := by decide +kernel
theorem dX10_readNumber_22 : decode cX10_readNumber 22 = .ok (.ifCond .eq 39, 3) := by decide +kernel
theorem dX10_readNumber_25 : decode cX10_readNumber 25 = .ok (.aload_n 0, 1) := by decide +kernel
theorem dX10_readNumber_26 : decode cX10_readNumber 26 = .ok (.aload_n 0, 1) := by decide +kernel
theorem dX10_readNumber_27 : decode cX10_readNumber 27 = .ok (.getfield 31, 3) := by decide +kernel
theorem dX10_readNumber_30 : decode cX10_readNumber 30 = .ok (.bipush 10, 2) := by decide +kernel
theorem dX10_readNumber_32 : decode cX10_readNumber 32 = .ok (.imul, 1) := by decide +kernel
theorem dX10_readNumber_33 : decode cX10_readNumber 33 = .ok (.aload_n 0, 1) := by decide +kernel
theorem dX10_readNumber_34 : decode cX10_readNumber 34 = .ok (.aload_n 0, 1) := by decide +kernel
theorem dX10_readNumber_35 : decode cX10_readNumber 35 = .ok (.getfield 17, 3) := by decide +kernel
theorem dX10_readNumber_38 : decode cX10_readNumber 38 = .ok (.invokevirtual 20, 3) := by decide +kernel
theorem dX10_readNumber_41 : decode cX10_readNumber 41 = .ok (.iadd, 1) := by decide +kernel
theorem dX10_readNumber_42 : decode cX10_readNumber 42 = .ok (.bipush 48, 2) := by decide +kernel
theorem dX10_readNumber_44 : decode cX10_readNumber 44 = .ok (.isub, 1) := by decide +kernel
theorem dX10_readNumber_45 : decode cX10_readNumber 45 = .ok (.putfield 31, 3) := by decide +kernel
theorem dX10_readNumber_48 : decode cX10_readNumber 48 = .ok (.aload_n 0, 1) := by decide +kernel
theorem dX10_readNumber_49 : decode cX10_readNumber 49 = .ok (.dup, 1) := by decide +kernel
theorem dX10_readNumber_50 : decode cX10_readNumber 50 = .ok (.getfield 17, 3) := by decide +kernel
theorem dX10_readNumber_53 : decode cX10_readNumber 53 = .ok (.iconst 1, 1) := by decide +kernel
theorem dX10_readNumber_54 : decode cX10_readNumber 54 = .ok (.iadd, 1) := by decide +kernel
theorem dX10_readNumber_55 : decode cX10_readNumber 55 = .ok (.putfield 17, 3) := by decide +kernel
theorem dX10_readNumber_58 : decode cX10_readNumber 58 = .ok (.goto (-58), 3) := by decide +kernel
theorem dX10_readNumber_61 : decode cX10_readNumber 61 = .ok (.aload_n 0, 1) := by decide +kernel
theorem dX10_readNumber_62 : decode cX10_readNumber 62 = .ok (.aload_n 0, 1) := by decide +kernel
theorem dX10_readNumber_63 : decode cX10_readNumber 63 = .ok (.getfield 17, 3) := by decide +kernel
theorem dX10_readNumber_66 : decode cX10_readNumber 66 = .ok (.aload_n 0, 1) := by decide +kernel
theorem dX10_readNumber_67 : decode cX10_readNumber 67 = .ok (.getfield 28, 3) := by decide +kernel
theorem dX10_readNumber_70 : decode cX10_readNumber 70 = .ok (.isub, 1) := by decide +kernel
theorem dX10_readNumber_71 : decode cX10_readNumber 71 = .ok (.iconst 4, 1) := by decide +kernel
theorem dX10_readNumber_72 : decode cX10_readNumber 72 = .ok (.if_icmp .gt 7, 3) := by decide +kernel
theorem dX10_readNumber_75 : decode cX10_readNumber 75 = .ok (.iconst 2, 1) := by decide +kernel
theorem dX10_readNumber_76 : decode cX10_readNumber 76 = .ok (.goto 4, 3) := by decide +kernel
theorem dX10_readNumber_79 : decode cX10_readNumber 79 = .ok (.iconst 4, 1) := by decide +kernel
theorem dX10_readNumber_80 : decode cX10_readNumber 80 = .ok (.putfield 34, 3) := by decide +kernel
theorem dX10_readNumber_83 : decode cX10_readNumber 83 = .ok (.return_, 1) := by decide +kernel
set_option maxRecDepth 20000 in
theorem ggX10_readNumber_X10_byteAt : GoodIn wsX10_readNumber wsX10_byteAt := goodIn_r _ [10, 2, 11, 15, 16, 17, 18, 19, 20] rfl (by decide +kernel)
set_option maxRecDepth 20000 in
theorem gX10_readNumber_X10_byteAt : GoodIn wsX10_readNumber (wsV RX10 20 RX10 yX10_byteAt wsX10_byteAt) := goodIn_app (goodIn_of _ (by decide +kernel)) ggX10_readNumber_X10_byteAt
set_option maxRecDepth 20000 in
theorem ggX10_readNumber_X10_isDigit : GoodIn wsX10_readNumber wsX10_isDigit := goodIn_r _ [14] rfl (by decide +kernel)
set_option maxRecDepth 20000 in
theorem gX10_readNumber_X10_isDigit : GoodIn wsX10_readNumber (va_wsS RX10 44 yX10_isDigit wsX10_isDigit) := goodIn_app (goodIn_of _ (by decide +kernel)) ggX10_readNumber_X10_isDigit
set_option maxHeartbeats 4000000 in
set_option maxRecDepth 100000 in
theorem S_X10_readNumber (l : Launch) (D : va_G) (K : Nat → ClassId) (a : Nat → Nat) (G : gS) (np : ((G 1 2).toInt = (G 1 4).toInt ∧ (G 1 5).toInt = 0)) (hI : xI G) (sz : Nat) : Kv l yX10_readNumber wsX10_readNumber 2 61 0 0 D [.ref (a 1)] (xW K a G) (tK K) sz (fun (G' : gS) => (xI G') ∧ (gu_un xcd [103, 104, 106] G G') ∧ (tRun tDi (G 17) (G 1 1).toInt (G 1 2).toInt (G' 1 2).toInt) ∧ ((((G' 1 2).toInt - (G 1 4).toInt ≤ 4 ∧ (G' 1 3).toInt = 2 ∧ (G' 1 5).toInt = tVal (G 17) (G 1 1).toInt (G 1 4).toInt ((G' 1 2).toInt - (G 1 4).toInt).toNat) ∨ (4 < (G' 1 2).toInt - (G 1 4).toInt ∧ (G' 1 3).toInt = 4)))) (fun (G' : gS) => (xW K a G')) (fun _ => (tK K)) := by
  unfold Kv
  refine g_ofW (cc := cX10_readNumber) (lv := [(0, .ref (a 1))]) (by decide) rfl (Nat.le_of_ble_eq_true rfl) rfl ?_
  intro p e s m args below meth c A Q hA hQ F hr hnm
  have hts := F.2.2.2.2.1
  have w_0 : (Cond.fieldLink RX10 17 "QuietCut$Tape" "at" "I").before args s = true := hts _ (List.mem_of_getElem? (i := 1) rfl)
  have i_X10 : ∀ w ∈ u_ws RX10 TX10 6, w ∈ wsX10_readNumber := fun _ h => List.mem_cons_of_mem _ (List.mem_append_right _ h)
  have w_1 : (Cond.fieldLink RX10 28 "QuietCut$Tape" "place" "I").before args s = true := hts _ (List.mem_of_getElem? (i := 4) rfl)
  have w_2 : (Cond.fieldLink RX10 34 "QuietCut$Tape" "kind" "I").before args s = true := hts _ (List.mem_of_getElem? (i := 5) rfl)
  have w_3 : (Cond.fieldLink RX10 13 "QuietCut$Tape" "length" "I").before args s = true := hts _ (List.mem_of_getElem? (i := 2) rfl)
  have w_4 : (Cond.fieldLink RX10 31 "QuietCut$Tape" "value" "I").before args s = true := hts _ (List.mem_of_getElem? (i := 3) rfl)
  have b1 : (0 : Int) ≤ (G 1 1).toInt ∧ (G 1 1).toInt ≤ 1000 := hI 1 1
  have b2 : (0 : Int) ≤ (G 1 2).toInt ∧ (G 1 2).toInt ≤ 1000 := hI 1 2
  have b3 : (0 : Int) ≤ (G 1 4).toInt ∧ (G 1 4).toInt ≤ 1000 := hI 1 4
  have J_61 : ∀  (Gj61 : gS), (xI Gj61) → (gu_un xcd [103, 106] G Gj61) → (tRun tDi (G 17) (G 1 1).toInt (G 1 2).toInt (Gj61 1 2).toInt) → ((Gj61 1 5) = Int32.ofInt (tVal (G 17) (G 1 1).toInt (G 1 4).toInt ((Gj61 1 2).toInt - (G 1 4).toInt).toNat)) → gG p l e (gR 2 0 0 61) s m args below meth c D A 1 Q 0 0 (xW K a Gj61) (tK K) [(0, .ref (a 1))] 61 [] := by
    intro Gj61 jI61 jU61 rr nv
    refine g_aload_n F 0 dX10_readNumber_61 rfl rfl ?_
    refine g_aload_n F 0 dX10_readNumber_62 rfl rfl ?_
    refine xg_1_2 F i_X10 w_0 dX10_readNumber_63 (Gj61 1 2) (rfl) ?_
    refine g_aload_n F 0 dX10_readNumber_66 rfl rfl ?_
    refine xg_1_4 F i_X10 w_1 dX10_readNumber_67 (G 1 4) (jU61 1 4 (by decide)) ?_
    have b5 : (0 : Int) ≤ (Gj61 1 2).toInt ∧ (Gj61 1 2).toInt ≤ 1000 := jI61 1 2
    refine u_isub F dX10_readNumber_70 (Gj61 1 2).toInt (G 1 4).toInt rfl rfl (by omega) (by omega) (fun y4 ey4 => ?_)
    refine g_iconst F 4 dX10_readNumber_71 (by decide) ?_
    refine v_icmp_gt F 79 dX10_readNumber_72 (by decide) y4.toInt 4 rfl rfl (fun c6 => ?_) (fun c6 => ?_)
    · refine g_iconst F 4 dX10_readNumber_79 (by decide) ?_
      refine xp_1_3 F i_X10 w_2 dX10_readNumber_80 ?_
      exact u_vret F hA hQ hr (gu_up Gj61 1 3 4) (⟨(gu_I.up (j := 1) (k := 3) (v := 4) jI61 (show (0 : Int) ≤ (4 : Int32).toInt by decide) (show (4 : Int32).toInt ≤ 4 by decide)), (gu_un.up (j := 1) (k := 3) (v := 4) (gu_un.tr gu_un.rf (gu_un.su jU61 rfl)) (show (104 : Nat) ∈ ([103, 104, 106] : List Nat) by decide)), (by rw [show (gu_up Gj61 1 3 4) 1 2 = (Gj61 1 2) from rfl]; exact rr), (by rw [show (gu_up Gj61 1 3 4) 1 2 = (Gj61 1 2) from rfl, show (gu_up Gj61 1 3 4) 1 3 = 4 from rfl, show (gu_up Gj61 1 3 4) 1 5 = (Gj61 1 5) from rfl]; first | exact Or.inl ⟨by omega, by decide, by rw [nv]; exact tVal_small (by have h9 := rr.1; rw [np.1] at h9; exact h9) (by omega)⟩ | exact Or.inr ⟨by omega, by decide⟩)⟩) rfl rfl dX10_readNumber_83
    · refine g_iconst F 2 dX10_readNumber_75 (by decide) ?_
      refine g_goto F 80 dX10_readNumber_76 (by decide) ?_
      refine xp_1_3 F i_X10 w_2 dX10_readNumber_80 ?_
      exact u_vret F hA hQ hr (gu_up Gj61 1 3 2) (⟨(gu_I.up (j := 1) (k := 3) (v := 2) jI61 (show (0 : Int) ≤ (2 : Int32).toInt by decide) (show (2 : Int32).toInt ≤ 4 by decide)), (gu_un.up (j := 1) (k := 3) (v := 2) (gu_un.tr gu_un.rf (gu_un.su jU61 rfl)) (show (104 : Nat) ∈ ([103, 104, 106] : List Nat) by decide)), (by rw [show (gu_up Gj61 1 3 2) 1 2 = (Gj61 1 2) from rfl]; exact rr), (by rw [show (gu_up Gj61 1 3 2) 1 2 = (Gj61 1 2) from rfl, show (gu_up Gj61 1 3 2) 1 3 = 2 from rfl, show (gu_up Gj61 1 3 2) 1 5 = (Gj61 1 5) from rfl]; first | exact Or.inl ⟨by omega, by decide, by rw [nv]; exact tVal_small (by have h9 := rr.1; rw [np.1] at h9; exact h9) (by omega)⟩ | exact Or.inr ⟨by omega, by decide⟩)⟩) rfl rfl dX10_readNumber_83
  have J_0 : ∀ (fuel : Nat) (Gj0 : gS), (2147483647 - (Gj0 1 2).toInt).toNat < fuel → (xI Gj0) → (gu_un xcd [103, 106] G Gj0) → (tPre tDi (G 17) (G 1 1).toInt (G 1 2).toInt (Gj0 1 2).toInt) → ((Gj0 1 5) = Int32.ofInt (tVal (G 17) (G 1 1).toInt (G 1 4).toInt ((Gj0 1 2).toInt - (G 1 4).toInt).toNat)) → gG p l e (gR 2 0 0 61) s m args below meth c D A 1 Q 0 0 (xW K a Gj0) (tK K) [(0, .ref (a 1))] 0 [] := by
    intro fuel
    induction fuel with
    | zero => intro Gj0 hm; exact absurd hm (Nat.not_lt_zero _)
    | succ fuel_0 ih_0 =>
      intro Gj0 hm_0 jI0 jU0 np2 nv
      refine g_aload_n F 0 dX10_readNumber_0 rfl rfl ?_
      refine xg_1_2 F i_X10 w_0 dX10_readNumber_1 (Gj0 1 2) (rfl) ?_
      refine g_aload_n F 0 dX10_readNumber_4 rfl rfl ?_
      refine xg_1_1 F i_X10 w_3 dX10_readNumber_5 (G 1 1) (jU0 1 1 (by decide)) ?_
      have b7 : (0 : Int) ≤ (Gj0 1 2).toInt ∧ (Gj0 1 2).toInt ≤ 1000 := jI0 1 2
      refine v_icmp_ge F 61 dX10_readNumber_8 (by decide) (Gj0 1 2).toInt (G 1 1).toInt rfl rfl (fun c8 => ?_) (fun c8 => ?_)
      · exact J_61 Gj0 jI0 (gu_un.tr gu_un.rf (gu_un.su jU0 rfl)) (⟨np2, fun h8 => by have h7 : tDi _ := h8.2; omega⟩) (nv)
      · refine g_aload_n F 0 dX10_readNumber_11 rfl rfl ?_
        refine g_aload_n F 0 dX10_readNumber_12 rfl rfl ?_
        refine xg_1_2 F i_X10 w_0 dX10_readNumber_13 (Gj0 1 2) (rfl) ?_
        refine u_callVi (k := 0) (n := 0) (b := a 1) (As := [.int (Gj0 1 2)]) (st := []) F (fun sz => S_X10_byteAt l D K a Gj0 (Gj0 1 2) (Gj0 1 2).toInt rfl jI0 sz) (cwV 1 hts gX10_readNumber_X10_byteAt rfl rfl rfl (by decide +kernel) ⟨Nat.le_of_ble_eq_true rfl, Nat.le_of_ble_eq_true rfl⟩) rfl 1 xc_1 rfl (Nat.le_of_ble_eq_true rfl) ⟨Nat.zero_le _, Nat.zero_le _⟩ dX10_readNumber_16 (fun r9 _ hw10 => ?_)
        have q12 : (0 ≤ (Gj0 1 2).toInt → r9.toInt = yBi (G 17) (G 1 1).toInt (Gj0 1 2).toInt) := by have h9 := hw10.2; (try simp only [(show Gj0 1 1 = (G 1 1) from jU0 1 1 (by decide)), (show Gj0 17 = (G 17) from (show Gj0 17 = G 17 from funext fun k_ => jU0 17 k_ (show (1700 : Nat) ∉ ([103, 106] : List Nat) by decide)))] at h9); first | exact h9 | omega
        have rg13 := hw10.1
        clear hw10
        refine u_call0 (k := 0) (n := 0) (As := [.int r9]) (st := []) F (fun sz => S_X10_isDigit l D r9 r9.toInt rfl sz) (va_cwS 1 hts gX10_readNumber_X10_isDigit rfl rfl rfl (by decide +kernel) ⟨Nat.le_of_ble_eq_true rfl, Nat.le_of_ble_eq_true rfl⟩) rfl (Nat.le_of_ble_eq_true rfl) ⟨Nat.zero_le _, Nat.zero_le _⟩ dX10_readNumber_19 (fun r14 _ hw15 => ?_)
        rcases hw15 with ⟨rfl, q17⟩ | ⟨rfl, q18⟩
        · refine v_if_eq F 61 dX10_readNumber_22 (by decide) 1 rfl (fun c19 => absurd c19 (by decide)) (fun c19 => ?_)
          refine g_aload_n F 0 dX10_readNumber_25 rfl rfl ?_
          refine g_aload_n F 0 dX10_readNumber_26 rfl rfl ?_
          refine xg_1_5 F i_X10 w_4 dX10_readNumber_27 (Gj0 1 5) (rfl) ?_
          refine g_bipush F 10 dX10_readNumber_30 (by decide) ?_
          refine g_imul F dX10_readNumber_32 ?_
          refine g_aload_n F 0 dX10_readNumber_33 rfl rfl ?_
          refine g_aload_n F 0 dX10_readNumber_34 rfl rfl ?_
          refine xg_1_2 F i_X10 w_0 dX10_readNumber_35 (Gj0 1 2) (rfl) ?_
          refine u_callVi (k := 0) (n := 0) (b := a 1) (As := [.int (Gj0 1 2)]) (st := [.int ((Gj0 1 5) * 10), .ref (a 1)]) F (fun sz => S_X10_byteAt l D K a Gj0 (Gj0 1 2) (Gj0 1 2).toInt rfl jI0 sz) (cwV 1 hts gX10_readNumber_X10_byteAt rfl rfl rfl (by decide +kernel) ⟨Nat.le_of_ble_eq_true rfl, Nat.le_of_ble_eq_true rfl⟩) rfl 1 xc_1 rfl (Nat.le_of_ble_eq_true rfl) ⟨Nat.zero_le _, Nat.zero_le _⟩ dX10_readNumber_38 (fun r20 _ hw21 => ?_)
          have q23 : (0 ≤ (Gj0 1 2).toInt → r20.toInt = yBi (G 17) (G 1 1).toInt (Gj0 1 2).toInt) := by have h9 := hw21.2; (try simp only [(show Gj0 1 1 = (G 1 1) from jU0 1 1 (by decide)), (show Gj0 17 = (G 17) from (show Gj0 17 = G 17 from funext fun k_ => jU0 17 k_ (show (1700 : Nat) ∉ ([103, 106] : List Nat) by decide)))] at h9); first | exact h9 | omega
          have rg24 := hw21.1
          clear hw21
          refine g_iadd F dX10_readNumber_41 ?_
          refine g_bipush F 48 dX10_readNumber_42 (by decide) ?_
          refine g_isub F dX10_readNumber_44 ?_
          refine xp_1_5 F i_X10 w_4 dX10_readNumber_45 ?_
          refine g_aload_n F 0 dX10_readNumber_48 rfl rfl ?_
          refine g_dup F dX10_readNumber_49 rfl ?_
          refine xg_1_2 F i_X10 w_0 dX10_readNumber_50 (Gj0 1 2) (rfl) ?_
          refine g_iconst F 1 dX10_readNumber_53 (by decide) ?_
          refine u_iadd F dX10_readNumber_54 (Gj0 1 2).toInt 1 rfl rfl (by omega) (by omega) (fun y25 ey25 => ?_)
          refine xp_1_2 F i_X10 w_0 dX10_readNumber_55 ?_
          refine g_goto F 0 dX10_readNumber_58 (by decide) ?_
          exact ih_0 (gu_up (gu_up Gj0 1 5 ((((Gj0 1 5) * 10) + r20) - 48)) 1 2 y25) (by have e9_1_2 : (gu_up (gu_up Gj0 1 5 ((((Gj0 1 5) * 10) + r20) - 48)) 1 2 y25) 1 2 = y25 := rfl; (try simp only [e9_1_2, true_and, and_true]) <;> omega) (gu_I.up (j := 1) (k := 2) (v := y25) (gu_I.up (j := 1) (k := 5) (v := ((((Gj0 1 5) * 10) + r20) - 48)) jI0 (ti_rng _).1 (ti_rng _).2) (show (0 : Int) ≤ Int32.toInt y25 by omega) (show Int32.toInt y25 ≤ 1000 by omega)) (gu_un.up (j := 1) (k := 2) (v := y25) (gu_un.up (j := 1) (k := 5) (v := ((((Gj0 1 5) * 10) + r20) - 48)) (gu_un.tr gu_un.rf (gu_un.su jU0 rfl)) (show (106 : Nat) ∈ ([103, 106] : List Nat) by decide)) (show (103 : Nat) ∈ ([103, 106] : List Nat) by decide)) (by have h9 := q23 (by omega); rw [show (gu_up (gu_up Gj0 1 5 ((((Gj0 1 5) * 10) + r20) - 48)) 1 2 y25) 1 2 = y25 from rfl]; exact tPre.step np2 (by omega) (show tDi _ by rw [← h9]; omega) (by omega)) (by rw [show (gu_up (gu_up Gj0 1 5 ((((Gj0 1 5) * 10) + r20) - 48)) 1 2 y25) 1 5 = ((((Gj0 1 5) * 10) + r20) - 48) from rfl, show (gu_up (gu_up Gj0 1 5 ((((Gj0 1 5) * 10) + r20) - 48)) 1 2 y25) 1 2 = y25 from rfl]; exact tVal_i32 nv (q23 (by omega)) (by have := np2.1; omega) (by omega))
        · refine v_if_eq F 61 dX10_readNumber_22 (by decide) 0 rfl (fun c26 => ?_) (fun c26 => absurd c26 (by decide))
          exact J_61 Gj0 jI0 (gu_un.tr gu_un.rf (gu_un.su jU0 rfl)) (⟨np2, fun h8 => by have h9 := q12 (by omega); have h7 : tDi _ := h8.2; omega⟩) (nv)
  exact J_0 _ G (Nat.lt_succ_self _) hI gu_un.rf (tPre.rf) (by rw [show ((G 1 2).toInt - (G 1 4).toInt).toNat = 0 by omega]; exact Int32.toInt_inj.mp (by rw [np.2]; rfl))

theorem dX10_readToken_0 : decode cX10_readToken 0 = .ok (.aload_n 0, 1) := by decide +kernel
theorem dX10_readToken_1 : decode cX10_readToken 1 = .ok (.getfield 17, 3) := by decide +kernel
theorem dX10_readToken_4 : decode cX10_readToken 4 = .ok (.aload_n 0, 1) := by decide +kernel
theorem dX10_readToken_5 : decode cX10_readToken 5 = .ok (.getfield 13, 3) := by decide +kernel
theorem dX10_readToken_8 : decode cX10_readToken 8 = .ok (.if_icmp .ge 30, 3) := by decide +kernel
theorem dX10_readToken_11 : decode cX10_readToken 11 = .ok (.aload_n 0, 1) := by decide +kernel
theorem dX10_readToken_12 : decode cX10_readToken 12 = .ok (.aload_n 0, 1) := by decide +kernel
theorem dX10_readToken_13 : decode cX10_readToken 13 = .ok (.getfield 17, 3) := by decide +kernel
theorem dX10_readToken_16 : decode cX10_readToken 16 = .ok (.invokevirtual 20, 3) := by decide +kernel
theorem dX10_readToken_19 : decode cX10_readToken 19 = .ok (.invokestatic 24, 3) := by decide +kernel
theorem dX10_readToken_22 : decode cX10_readToken 22 = .ok (.ifCond .eq 16, 3) := by decide +kernel
theorem dX10_readToken_25 : decode cX10_readToken 25 = .ok (.aload_n 0, 1) := by decide +kernel
theorem dX10_readToken_26 : decode cX10_readToken 26 = .ok (.dup, 1) := by decide +kernel
theorem dX10_readToken_27 : decode cX10_readToken 27 = .ok (.getfield 17, 3) := by decide +kernel
theorem dX10_readToken_30 : decode cX10_readToken 30 = .ok (.iconst 1, 1) := by decide +kernel
theorem dX10_readToken_31 : decode cX10_readToken 31 = .ok (.iadd, 1) := by decide +kernel
theorem dX10_readToken_32 : decode cX10_readToken 32 = .ok (.putfield 17, 3) := by decide +kernel
theorem dX10_readToken_35 : decode cX10_readToken 35 = .ok (.goto (-35), 3) := by decide +kernel
theorem dX10_readToken_38 : decode cX10_readToken 38 = .ok (.aload_n 0, 1) := by decide +kernel
theorem dX10_readToken_39 : decode cX10_readToken 39 = .ok (.aload_n 0, 1) := by decide +kernel
theorem dX10_readToken_40 : decode cX10_readToken 40 = .ok (.getfield 17, 3) := by decide +kernel
theorem dX10_readToken_43 : decode cX10_readToken 43 = .ok (.putfield 28, 3) := by decide +kernel
theorem dX10_readToken_46 : decode cX10_readToken 46 = .ok (.aload_n 0, 1) := by decide +kernel
theorem dX10_readToken_47 : decode cX10_readToken 47 = .ok (.iconst 0, 1) := by decide +kernel
theorem dX10_readToken_48 : decode cX10_readToken 48 = .ok (.putfield 31, 3) := by decide +kernel
theorem dX10_readToken_51 : decode cX10_readToken 51 = .ok (.aload_n 0, 1) := by decide +kernel
theorem dX10_readToken_52 : decode cX10_readToken 52 = .ok (.aload_n 0, 1) := by decide +kernel
theorem dX10_readToken_53 : decode cX10_readToken 53 = .ok (.getfield 17, 3) := by decide +kernel
theorem dX10_readToken_56 : decode cX10_readToken 56 = .ok (.invokevirtual 20, 3) := by decide +kernel
theorem dX10_readToken_59 : decode cX10_readToken 59 = .ok (.istore_n 1, 1) := by decide +kernel
theorem dX10_readToken_60 : decode cX10_readToken 60 = .ok (.aload_n 0, 1) := by decide +kernel
theorem dX10_readToken_61 : decode cX10_readToken 61 = .ok (.getfield 17, 3) := by decide +kernel
theorem dX10_readToken_64 : decode cX10_readToken 64 = .ok (.aload_n 0, 1) := by decide +kernel
theorem dX10_readToken_65 : decode cX10_readToken 65 = .ok (.getfield 13, 3) := by decide +kernel
theorem dX10_readToken_68 : decode cX10_readToken 68 = .ok (.if_icmp .lt 11, 3) := by decide +kernel
theorem dX10_readToken_71 : decode cX10_readToken 71 = .ok (.aload_n 0, 1) := by decide +kernel
theorem dX10_readToken_72 : decode cX10_readToken 72 = .ok (.iconst 0, 1) := by decide +kernel
theorem dX10_readToken_73 : decode cX10_readToken 73 = .ok (.putfield 34, 3) := by decide +kernel
theorem dX10_readToken_76 : decode cX10_readToken 76 = .ok (.goto 66, 3) := by decide +kernel
theorem dX10_readToken_79 : decode cX10_readToken 79 = .ok (.iload_n 1, 1) := by decide +kernel
theorem dX10_readToken_80 : decode cX10_readToken 80 = .ok (.invokestatic 37, 3) := by decide +kernel
theorem dX10_readToken_83 : decode cX10_readToken 83 = .ok (.ifCond .eq 11, 3) := by decide +kernel
theorem dX10_readToken_86 : decode cX10_readToken 86 = .ok (.aload_n 0, 1) := by decide +kernel
theorem dX10_readToken_87 : decode cX10_readToken 87 = .ok (.iload_n 1, 1) := by decide +kernel
theorem dX10_readToken_88 : decode cX10_readToken 88 = .ok (.invokevirtual 40, 3) := by decide +kernel
theorem dX10_readToken_91 : decode cX10_readToken 91 = .ok (.goto 51, 3) := by decide +kernel
theorem dX10_readToken_94 : decode cX10_readToken 94 = .ok (.iload_n 1, 1) := by decide +kernel
theorem dX10_readToken_95 : decode cX10_readToken 95 = .ok (.invokestatic 44, 3) := by decide +kernel
theorem dX10_readToken_98 : decode cX10_readToken 98 = .ok (.ifCond .eq 10, 3) := by decide +kernel
theorem dX10_readToken_101 : decode cX10_readToken 101 = .ok (.aload_n 0, 1) := by decide +kernel
theorem dX10_readToken_102 : decode cX10_readToken 102 = .ok (.invokevirtual 47, 3) := by decide +kernel
theorem dX10_readToken_105 : decode cX10_readToken 105 = .ok (.goto 37, 3) := by decide +kernel
theorem dX10_readToken_108 : decode cX10_readToken 108 = .ok (.aload_n 0, 1) := by decide +kernel
theorem dX10_readToken_109 : decode cX10_readToken 109 = .ok (.ldc 50, 2) := by decide +kernel
theorem dX10_readToken_111 : decode cX10_readToken 111 = .ok (.iload_n 1, 1) := by decide +kernel
theorem dX10_readToken_112 : decode cX10_readToken 112 = .ok (.i2c, 1) := by decide +kernel
theorem dX10_readToken_113 : decode cX10_readToken 113 = .ok (.invokevirtual 52, 3) := by decide +kernel
theorem dX10_readToken_116 : decode cX10_readToken 116 = .ok (.ifCond .lt 7, 3) := by decide +kernel
theorem dX10_readToken_119 : decode cX10_readToken 119 = .ok (.iconst 3, 1) := by decide +kernel
theorem dX10_readToken_120 : decode cX10_readToken 120 = .ok (.goto 4, 3) := by decide +kernel
theorem dX10_readToken_123 : decode cX10_readToken 123 = .ok (.iconst 4, 1) := by decide +kernel
theorem dX10_readToken_124 : decode cX10_readToken 124 = .ok (.putfield 34, 3) := by decide +kernel
theorem dX10_readToken_127 : decode cX10_readToken 127 = .ok (.aload_n 0, 1) := by decide +kernel
theorem dX10_readToken_128 : decode cX10_readToken 128 = .ok (.iload_n 1, 1) := by decide +kernel
theorem dX10_readToken_129 : decode cX10_readToken 129 = .ok (.putfield 31, 3) := by decide +kernel
theorem dX10_readToken_132 : decode cX10_readToken 132 = .ok (.aload_n 0, 1) := by decide +kernel
theorem dX10_readToken_133 : decode cX10_readToken 133 = .ok (.dup, 1) := by decide +kernel
theorem dX10_readToken_134 : decode cX10_readToken 134 = .ok (.getfield 17, 3) := by decide +kernel
theorem dX10_readToken_137 : decode cX10_readToken 137 = .ok (.iconst 1, 1) := by decide +kernel
theorem dX10_readToken_138 : decode cX10_readToken 138 = .ok (.iadd, 1) := by decide +kernel
theorem dX10_readToken_139 : decode cX10_readToken 139 = .ok (.putfield 17, 3) := by decide +kernel
theorem dX10_readToken_142 : decode cX10_readToken 142 = .ok (.return_, 1) := by decide +kernel
set_option maxRecDepth 20000 in
theorem ggX10_readToken_J0_indexOf_0f7a4 : GoodIn wsX10_readToken wsJ0_indexOf_0f7a4 := goodIn_r _ [33, 34, 35, 36, 32, 37, 38, 39, 40, 41, 42, 43, 44, 45, 46, 47, 48, 49, 50, 51, 52, 53, 54, 55, 56, 57, 58, 59, 60, 61, 62, 63, 64, 65, 66, 67, 68, 69, 70, 71, 72, 73, 74, 75, 76, 77, 78, 79, 80, 81, 82, 83, 84, 85, 86, 87, 88, 89, 90, 91, 92, 93, 94, 95, 96, 97, 98, 99, 100, 101, 102, 103, 104, 105, 106, 107, 108, 109, 110, 111, 112, 113, 114, 115, 116, 117] rfl (by decide +kernel)
set_option maxRecDepth 20000 in
theorem gX10_readToken_J0_indexOf_0f7a4 : GoodIn wsX10_readToken (wsV RX10 52 RJ0 yJ0_indexOf_0f7a4 wsJ0_indexOf_0f7a4) := goodIn_app (goodIn_of _ (by decide +kernel)) ggX10_readToken_J0_indexOf_0f7a4
set_option maxRecDepth 20000 in
theorem ggX10_readToken_X10_byteAt : GoodIn wsX10_readToken wsX10_byteAt := goodIn_r _ [10, 2, 11, 118, 119, 120, 121, 122, 123] rfl (by decide +kernel)
set_option maxRecDepth 20000 in
theorem gX10_readToken_X10_byteAt : GoodIn wsX10_readToken (wsV RX10 20 RX10 yX10_byteAt wsX10_byteAt) := goodIn_app (goodIn_of _ (by decide +kernel)) ggX10_readToken_X10_byteAt
set_option maxRecDepth 20000 in
theorem ggX10_readToken_X10_isBlank : GoodIn wsX10_readToken wsX10_isBlank := goodIn_r _ [14] rfl (by decide +kernel)
set_option maxRecDepth 20000 in
theorem gX10_readToken_X10_isBlank : GoodIn wsX10_readToken (va_wsS RX10 24 yX10_isBlank wsX10_isBlank) := goodIn_app (goodIn_of _ (by decide +kernel)) ggX10_readToken_X10_isBlank
set_option maxRecDepth 20000 in
theorem ggX10_readToken_X10_isDigit : GoodIn wsX10_readToken wsX10_isDigit := goodIn_r _ [24] rfl (by decide +kernel)
set_option maxRecDepth 20000 in
theorem gX10_readToken_X10_isDigit : GoodIn wsX10_readToken (va_wsS RX10 44 yX10_isDigit wsX10_isDigit) := goodIn_app (goodIn_of _ (by decide +kernel)) ggX10_readToken_X10_isDigit
set_option maxRecDepth 20000 in
theorem ggX10_readToken_X10_isLetter : GoodIn wsX10_readToken wsX10_isLetter := goodIn_r _ [17] rfl (by decide +kernel)
set_option maxRecDepth 20000 in
theorem gX10_readToken_X10_isLetter : GoodIn wsX10_readToken (va_wsS RX10 37 yX10_isLetter wsX10_isLetter) := goodIn_app (goodIn_of _ (by decide +kernel)) ggX10_readToken_X10_isLetter
set_option maxRecDepth 20000 in
theorem ggX10_readToken_X10_readNumber : GoodIn wsX10_readToken wsX10_readNumber := goodIn_r _ [28, 1, 2, 4, 3, 5, 6, 7, 8, 9, 10, 11, 22, 23, 24, 118, 119, 120, 121, 122, 123] rfl (by decide +kernel)
set_option maxRecDepth 20000 in
theorem gX10_readToken_X10_readNumber : GoodIn wsX10_readToken (wsV RX10 47 RX10 yX10_readNumber wsX10_readNumber) := goodIn_app (goodIn_of _ (by decide +kernel)) ggX10_readToken_X10_readNumber
set_option maxRecDepth 20000 in
theorem ggX10_readToken_X10_readWord : GoodIn wsX10_readToken wsX10_readWord := goodIn_r _ [21, 1, 2, 3, 5, 4, 6, 7, 8, 9, 10, 11, 15, 16, 17, 118, 119, 120, 121, 122, 123] rfl (by decide +kernel)
set_option maxRecDepth 20000 in
theorem gX10_readToken_X10_readWord : GoodIn wsX10_readToken (wsV RX10 40 RX10 yX10_readWord wsX10_readWord) := goodIn_app (goodIn_of _ (by decide +kernel)) ggX10_readToken_X10_readWord
set_option maxHeartbeats 4000000 in
set_option maxRecDepth 100000 in
theorem S_X10_readToken (l : Launch) (D : va_G) (K : Nat → ClassId) (a : Nat → Nat) (G : gS) (zf : Nat → Nat) (hI : xI G) (sz : Nat) : KvZ (xZ zf) l yX10_readToken wsX10_readToken 5 131 D [.ref (a 1)] (xW K a G) (tK K) sz (fun (G' : gS) => (xI G') ∧ (gu_un xcd [103, 104, 105, 106] G G') ∧ (tTok (G 17) (G 1 1).toInt (G 1 2).toInt (G' 1 3).toInt (G' 1 4).toInt (G' 1 5).toInt (G' 1 2).toInt) ∧ (((G' 1 3).toInt = 1 → (((G' 1 2).toInt - (G' 1 4).toInt = 1 ∧ (G' 1 5).toInt = yBi (G 17) (G 1 1).toInt (G' 1 4).toInt) ∨ ((G' 1 2).toInt - (G' 1 4).toInt ≠ 1 ∧ (G' 1 5).toInt = 0))))) (fun (G' : gS) => (xW K a G')) := by
  unfold KvZ
  refine gz_ofW (cc := cX10_readToken) (lv := [(0, .ref (a 1))]) (by decide) rfl (Nat.le_of_ble_eq_true rfl) rfl ?_
  intro p e s m args below meth c A Q hA hQ hZ F hr hnm
  have hts := F.2.2.2.2.1
  have w_0 : (Cond.fieldLink RX10 17 "QuietCut$Tape" "at" "I").before args s = true := hts _ (List.mem_of_getElem? (i := 1) rfl)
  have i_X10 : ∀ w ∈ u_ws RX10 TX10 6, w ∈ wsX10_readToken := fun _ h => List.mem_cons_of_mem _ (List.mem_append_right _ h)
  have w_1 : (Cond.fieldLink RX10 28 "QuietCut$Tape" "place" "I").before args s = true := hts _ (List.mem_of_getElem? (i := 3) rfl)
  have w_2 : (Cond.fieldLink RX10 31 "QuietCut$Tape" "value" "I").before args s = true := hts _ (List.mem_of_getElem? (i := 4) rfl)
  have w_3 : (Cond.fieldLink RX10 13 "QuietCut$Tape" "length" "I").before args s = true := hts _ (List.mem_of_getElem? (i := 2) rfl)
  have w_4 : (Cond.fieldLink RX10 34 "QuietCut$Tape" "kind" "I").before args s = true := hts _ (List.mem_of_getElem? (i := 5) rfl)
  have b1 : (0 : Int) ≤ (G 1 1).toInt ∧ (G 1 1).toInt ≤ 1000 := hI 1 1
  have b2 : (0 : Int) ≤ (G 1 2).toInt ∧ (G 1 2).toInt ≤ 1000 := hI 1 2
  have J_38 : ∀  (Gj38 : gS), (xI Gj38) → (gu_un xcd [103] G Gj38) → (tRun tBl (G 17) (G 1 1).toInt (G 1 2).toInt (Gj38 1 2).toInt) → gG p l e (gR 5 0 0 131) s m args below meth c D A 2 Q 0 0 (xW K a Gj38) (tK K) [(0, .ref (a 1))] 38 [] := by
    intro Gj38 jI38 jU38 rr
    refine g_aload_n F 0 dX10_readToken_38 rfl rfl ?_
    refine g_aload_n F 0 dX10_readToken_39 rfl rfl ?_
    refine xg_1_2 F i_X10 w_0 dX10_readToken_40 (Gj38 1 2) (rfl) ?_
    have b3 : (0 : Int) ≤ (Gj38 1 2).toInt ∧ (Gj38 1 2).toInt ≤ 1000 := jI38 1 2
    refine xp_1_4 F i_X10 w_1 dX10_readToken_43 ?_
    refine g_aload_n F 0 dX10_readToken_46 rfl rfl ?_
    refine g_iconst F 0 dX10_readToken_47 (by decide) ?_
    refine xp_1_5 F i_X10 w_2 dX10_readToken_48 ?_
    refine g_aload_n F 0 dX10_readToken_51 rfl rfl ?_
    refine g_aload_n F 0 dX10_readToken_52 rfl rfl ?_
    refine xg_1_2 F i_X10 w_0 dX10_readToken_53 (Gj38 1 2) (rfl) ?_
    refine u_callVi (k := 0) (n := 0) (b := a 1) (As := [.int (Gj38 1 2)]) (st := []) F (fun sz => S_X10_byteAt l D K a (gu_up (gu_up Gj38 1 4 (Gj38 1 2)) 1 5 0) (Gj38 1 2) (Gj38 1 2).toInt rfl (gu_I.up (j := 1) (k := 5) (v := 0) (gu_I.up (j := 1) (k := 4) (v := (Gj38 1 2)) jI38 (show (0 : Int) ≤ Int32.toInt (Gj38 1 2) by omega) (show Int32.toInt (Gj38 1 2) ≤ 1000 by omega)) (ti_rng _).1 (ti_rng _).2) sz) (cwV 1 hts gX10_readToken_X10_byteAt rfl rfl rfl (by decide +kernel) ⟨Nat.le_of_ble_eq_true rfl, Nat.le_of_ble_eq_true rfl⟩) rfl 1 xc_1 rfl (Nat.le_of_ble_eq_true rfl) ⟨Nat.zero_le _, Nat.zero_le _⟩ dX10_readToken_56 (fun r4 _ hw5 => ?_)
    have q7 : (0 ≤ (Gj38 1 2).toInt → r4.toInt = yBi (G 17) (G 1 1).toInt (Gj38 1 2).toInt) := by have h9 := hw5.2; (try simp only [(show (gu_up (gu_up Gj38 1 4 (Gj38 1 2)) 1 5 0) 1 1 = (G 1 1) from jU38 1 1 (by decide)), (show (gu_up (gu_up Gj38 1 4 (Gj38 1 2)) 1 5 0) 17 = (G 17) from (show Gj38 17 = G 17 from funext fun k_ => jU38 17 k_ (show (1700 : Nat) ∉ ([103] : List Nat) by decide)))] at h9); first | exact h9 | omega
    have rg8 := hw5.1
    clear hw5
    refine g_istore_n F [(1, .int r4), (0, .ref (a 1))] dX10_readToken_59 rfl (by decide) rfl ?_
    refine g_aload_n F 1 dX10_readToken_60 rfl rfl ?_
    refine xg_1_2 F i_X10 w_0 dX10_readToken_61 (Gj38 1 2) (rfl) ?_
    refine g_aload_n F 1 dX10_readToken_64 rfl rfl ?_
    refine xg_1_1 F i_X10 w_3 dX10_readToken_65 (G 1 1) (jU38 1 1 (by decide)) ?_
    refine v_icmp_lt F 79 dX10_readToken_68 (by decide) (Gj38 1 2).toInt (G 1 1).toInt rfl rfl (fun c9 => ?_) (fun c9 => ?_)
    · refine g_iload_n F 0 dX10_readToken_79 rfl rfl ?_
      refine u_call0 (k := 0) (n := 0) (As := [.int r4]) (st := []) F (fun sz => S_X10_isLetter l D r4 r4.toInt rfl sz) (va_cwS 1 hts gX10_readToken_X10_isLetter rfl rfl rfl (by decide +kernel) ⟨Nat.le_of_ble_eq_true rfl, Nat.le_of_ble_eq_true rfl⟩) rfl (Nat.le_of_ble_eq_true rfl) ⟨Nat.zero_le _, Nat.zero_le _⟩ dX10_readToken_80 (fun r10 _ hw11 => ?_)
      rcases hw11 with ⟨rfl, q13⟩ | ⟨rfl, q14⟩
      · refine v_if_eq F 94 dX10_readToken_83 (by decide) 1 rfl (fun c15 => absurd c15 (by decide)) (fun c15 => ?_)
        refine g_aload_n F 1 dX10_readToken_86 rfl rfl ?_
        refine g_iload_n F 0 dX10_readToken_87 rfl rfl ?_
        refine u_callVv (k := 0) (n := 0) (b := a 1) (As := [.int r4]) (st := []) F (fun sz => S_X10_readWord l D K a (gu_up (gu_up Gj38 1 4 (Gj38 1 2)) 1 5 0) r4 r4.toInt rfl (gu_I.up (j := 1) (k := 5) (v := 0) (gu_I.up (j := 1) (k := 4) (v := (Gj38 1 2)) jI38 (show (0 : Int) ≤ Int32.toInt (Gj38 1 2) by omega) (show Int32.toInt (Gj38 1 2) ≤ 1000 by omega)) (ti_rng _).1 (ti_rng _).2) sz) (cwV 1 hts gX10_readToken_X10_readWord rfl rfl rfl (by decide +kernel) ⟨Nat.le_of_ble_eq_true rfl, Nat.le_of_ble_eq_true rfl⟩) rfl 1 xc_1 rfl (Nat.le_of_ble_eq_true rfl) ⟨Nat.zero_le _, Nat.zero_le _⟩ dX10_readToken_88 (fun G18 hw17 => ?_)
        have hI19 : xI G18 := hw17.1
        have hU20 : gu_un xcd [103, 104, 106] (gu_up (gu_up Gj38 1 4 (Gj38 1 2)) 1 5 0) G18 := hw17.2.1
        have hp21 := hw17.2.2
        have b22 : (0 : Int) ≤ (G18 1 2).toInt ∧ (G18 1 2).toInt ≤ 1000 := hI19 1 2
        have q23 : tRun tLe (G 17) (G 1 1).toInt (Gj38 1 2).toInt (G18 1 2).toInt := by have h9 := hp21.1; (try simp only [(show (gu_up (gu_up Gj38 1 4 (Gj38 1 2)) 1 5 0) 1 1 = (G 1 1) from jU38 1 1 (by decide)), (show (gu_up (gu_up Gj38 1 4 (Gj38 1 2)) 1 5 0) 17 = (G 17) from (show Gj38 17 = G 17 from funext fun k_ => jU38 17 k_ (show (1700 : Nat) ∉ ([103] : List Nat) by decide)))] at h9); first | exact h9 | omega
        have b24 : (0 : Int) ≤ (G18 1 3).toInt ∧ (G18 1 3).toInt ≤ 4 := hI19 1 3
        have q25 : (((G18 1 2).toInt - (Gj38 1 2).toInt ≤ 8 ∧ (G18 1 3).toInt = 1) ∨ (8 < (G18 1 2).toInt - (Gj38 1 2).toInt ∧ (G18 1 3).toInt = 4)) := hp21.2.1
        have q26 : (((G18 1 2).toInt - (Gj38 1 2).toInt = 1 ∧ (G18 1 5).toInt = r4.toInt) ∨ ((G18 1 2).toInt - (Gj38 1 2).toInt ≠ 1 ∧ (G18 1 5).toInt = 0)) := hp21.2.2
        clear hp21 hw17
        refine g_goto F 142 dX10_readToken_91 (by decide) ?_
        exact u_vret F hA hQ hr G18 (⟨hI19, (gu_un.tr (gu_un.up (j := 1) (k := 5) (v := 0) (gu_un.up (j := 1) (k := 4) (v := (Gj38 1 2)) (gu_un.tr gu_un.rf (gu_un.su jU38 rfl)) (show (105 : Nat) ∈ ([103, 104, 105, 106] : List Nat) by decide)) (show (106 : Nat) ∈ ([103, 104, 105, 106] : List Nat) by decide)) (gu_un.su hU20 rfl)), (by have hc := q7 (by omega); rw [show G18 1 2 = (G18 1 2) from rfl, show G18 1 3 = (G18 1 3) from rfl, show G18 1 4 = (Gj38 1 2) from hU20 1 4 (by decide), show G18 1 5 = (G18 1 5) from rfl]; exact ⟨rr, Or.inr (Or.inl ⟨by omega, show tLe _ by rw [← hc]; omega, q23, by omega⟩)⟩), (by rw [show G18 1 2 = (G18 1 2) from rfl, show G18 1 3 = (G18 1 3) from rfl, show G18 1 4 = (Gj38 1 2) from hU20 1 4 (by decide), show G18 1 5 = (G18 1 5) from rfl]; intro h9; have hc := q7 (by omega); have h8 := q26; rcases h8 with ⟨h6, h7⟩ | ⟨h6, h7⟩ <;> first | exact Or.inl ⟨by omega, by omega⟩ | exact Or.inr ⟨by omega, by omega⟩)⟩) rfl rfl dX10_readToken_142
      · refine v_if_eq F 94 dX10_readToken_83 (by decide) 0 rfl (fun c27 => ?_) (fun c27 => absurd c27 (by decide))
        refine g_iload_n F 0 dX10_readToken_94 rfl rfl ?_
        refine u_call0 (k := 0) (n := 0) (As := [.int r4]) (st := []) F (fun sz => S_X10_isDigit l D r4 r4.toInt rfl sz) (va_cwS 1 hts gX10_readToken_X10_isDigit rfl rfl rfl (by decide +kernel) ⟨Nat.le_of_ble_eq_true rfl, Nat.le_of_ble_eq_true rfl⟩) rfl (Nat.le_of_ble_eq_true rfl) ⟨Nat.zero_le _, Nat.zero_le _⟩ dX10_readToken_95 (fun r28 _ hw29 => ?_)
        rcases hw29 with ⟨rfl, q31⟩ | ⟨rfl, q32⟩
        · refine v_if_eq F 108 dX10_readToken_98 (by decide) 1 rfl (fun c33 => absurd c33 (by decide)) (fun c33 => ?_)
          refine g_aload_n F 1 dX10_readToken_101 rfl rfl ?_
          refine u_callVv (k := 0) (n := 0) (b := a 1) (As := []) (st := []) F (fun sz => S_X10_readNumber l D K a (gu_up (gu_up Gj38 1 4 (Gj38 1 2)) 1 5 0)  (by have e9_1_2 : (gu_up (gu_up Gj38 1 4 (Gj38 1 2)) 1 5 0) 1 2 = (Gj38 1 2) := rfl; have e9_1_4 : (gu_up (gu_up Gj38 1 4 (Gj38 1 2)) 1 5 0) 1 4 = (Gj38 1 2) := rfl; have e9_1_5 : (gu_up (gu_up Gj38 1 4 (Gj38 1 2)) 1 5 0) 1 5 = 0 := rfl; (try simp only [e9_1_2, e9_1_4, e9_1_5, true_and, and_true]) <;> (first | omega | (simp only [Int32.reduceToInt, true_and, and_true, ne_eq, not_true_eq_false, false_and, or_false, false_or, true_or, or_true, false_implies] <;> omega))) (gu_I.up (j := 1) (k := 5) (v := 0) (gu_I.up (j := 1) (k := 4) (v := (Gj38 1 2)) jI38 (show (0 : Int) ≤ Int32.toInt (Gj38 1 2) by omega) (show Int32.toInt (Gj38 1 2) ≤ 1000 by omega)) (ti_rng _).1 (ti_rng _).2) sz) (cwV 0 hts gX10_readToken_X10_readNumber rfl rfl rfl (by decide +kernel) ⟨Nat.le_of_ble_eq_true rfl, Nat.le_of_ble_eq_true rfl⟩) rfl 1 xc_1 rfl (Nat.le_of_ble_eq_true rfl) ⟨Nat.zero_le _, Nat.zero_le _⟩ dX10_readToken_102 (fun G36 hw35 => ?_)
          have hI37 : xI G36 := hw35.1
          have hU38 : gu_un xcd [103, 104, 106] (gu_up (gu_up Gj38 1 4 (Gj38 1 2)) 1 5 0) G36 := hw35.2.1
          have hp39 := hw35.2.2
          have b40 : (0 : Int) ≤ (G36 1 2).toInt ∧ (G36 1 2).toInt ≤ 1000 := hI37 1 2
          have q41 : tRun tDi (G 17) (G 1 1).toInt (Gj38 1 2).toInt (G36 1 2).toInt := by have h9 := hp39.1; (try simp only [(show (gu_up (gu_up Gj38 1 4 (Gj38 1 2)) 1 5 0) 1 1 = (G 1 1) from jU38 1 1 (by decide)), (show (gu_up (gu_up Gj38 1 4 (Gj38 1 2)) 1 5 0) 17 = (G 17) from (show Gj38 17 = G 17 from funext fun k_ => jU38 17 k_ (show (1700 : Nat) ∉ ([103] : List Nat) by decide)))] at h9); first | exact h9 | omega
          have b42 : (0 : Int) ≤ (G36 1 3).toInt ∧ (G36 1 3).toInt ≤ 4 := hI37 1 3
          have q43 : (((G36 1 2).toInt - (Gj38 1 2).toInt ≤ 4 ∧ (G36 1 3).toInt = 2 ∧ (G36 1 5).toInt = tVal (G 17) (G 1 1).toInt (Gj38 1 2).toInt ((G36 1 2).toInt - (Gj38 1 2).toInt).toNat) ∨ (4 < (G36 1 2).toInt - (Gj38 1 2).toInt ∧ (G36 1 3).toInt = 4)) := by have h9 := hp39.2; (try simp only [(show (gu_up (gu_up Gj38 1 4 (Gj38 1 2)) 1 5 0) 1 1 = (G 1 1) from jU38 1 1 (by decide)), (show (gu_up (gu_up Gj38 1 4 (Gj38 1 2)) 1 5 0) 17 = (G 17) from (show Gj38 17 = G 17 from funext fun k_ => jU38 17 k_ (show (1700 : Nat) ∉ ([103] : List Nat) by decide)))] at h9); first | exact h9 | omega
          clear hp39 hw35
          refine g_goto F 142 dX10_readToken_105 (by decide) ?_
          exact u_vret F hA hQ hr G36 (⟨hI37, (gu_un.tr (gu_un.up (j := 1) (k := 5) (v := 0) (gu_un.up (j := 1) (k := 4) (v := (Gj38 1 2)) (gu_un.tr gu_un.rf (gu_un.su jU38 rfl)) (show (105 : Nat) ∈ ([103, 104, 105, 106] : List Nat) by decide)) (show (106 : Nat) ∈ ([103, 104, 105, 106] : List Nat) by decide)) (gu_un.su hU38 rfl)), (by have hc := q7 (by omega); rw [show G36 1 2 = (G36 1 2) from rfl, show G36 1 3 = (G36 1 3) from rfl, show G36 1 4 = (Gj38 1 2) from hU38 1 4 (by decide), show G36 1 5 = (G36 1 5) from rfl]; exact ⟨rr, Or.inr (Or.inr (Or.inl ⟨by omega, show tDi _ by rw [← hc]; omega, q41, q43⟩))⟩), (by rw [show G36 1 2 = (G36 1 2) from rfl, show G36 1 3 = (G36 1 3) from rfl, show G36 1 4 = (Gj38 1 2) from hU38 1 4 (by decide), show G36 1 5 = (G36 1 5) from rfl]; intro h9; first | (exfalso; revert h9; decide) | (exfalso; omega))⟩) rfl rfl dX10_readToken_142
        · refine v_if_eq F 108 dX10_readToken_98 (by decide) 0 rfl (fun c44 => ?_) (fun c44 => absurd c44 (by decide))
          refine g_aload_n F 1 dX10_readToken_108 rfl rfl ?_
          refine uz_ldcS F hZ.2.2.1 dX10_readToken_109 ?_
          refine g_iload_n F 0 dX10_readToken_111 rfl rfl ?_
          refine uz_i2c F dX10_readToken_112 r4.toInt rfl (by omega) (by omega) ?_
          refine uz_call0Vi (k := 0) (n := 0) (b := (zf 2)) (As := [.int r4]) (st := [.ref (a 1)]) F zS_st hZ.2.1 (fun sz => S_J0_indexOf_0f7a4 l D (zf 2) (zf 3) _ _ (by decide) r4 r4.toInt rfl sz) (cwV 1 hts gX10_readToken_J0_indexOf_0f7a4 rfl rfl rfl (by decide +kernel) ⟨Nat.le_of_ble_eq_true rfl, Nat.le_of_ble_eq_true rfl⟩) hZ.2.1.1 rfl (Nat.le_of_ble_eq_true rfl) ⟨Nat.zero_le _, Nat.zero_le _⟩ dX10_readToken_113 (fun r45 _ hw46 => ?_)
          have hz47 := hw46.2
          have hw46 := hw46.1
          refine v_if_lt F 123 dX10_readToken_116 (by decide) r45.toInt rfl (fun c48 => ?_) (fun c48 => ?_)
          · refine g_iconst F 4 dX10_readToken_123 (by decide) ?_
            refine xp_1_3 F i_X10 w_4 dX10_readToken_124 ?_
            refine g_aload_n F 1 dX10_readToken_127 rfl rfl ?_
            refine g_iload_n F 0 dX10_readToken_128 rfl rfl ?_
            refine xp_1_5 F i_X10 w_2 dX10_readToken_129 ?_
            refine g_aload_n F 1 dX10_readToken_132 rfl rfl ?_
            refine g_dup F dX10_readToken_133 rfl ?_
            refine xg_1_2 F i_X10 w_0 dX10_readToken_134 (Gj38 1 2) (rfl) ?_
            refine g_iconst F 1 dX10_readToken_137 (by decide) ?_
            refine u_iadd F dX10_readToken_138 (Gj38 1 2).toInt 1 rfl rfl (by omega) (by omega) (fun y49 ey49 => ?_)
            refine xp_1_2 F i_X10 w_0 dX10_readToken_139 ?_
            exact u_vret F hA hQ hr (gu_up (gu_up (gu_up (gu_up (gu_up Gj38 1 4 (Gj38 1 2)) 1 5 0) 1 3 4) 1 5 r4) 1 2 y49) (⟨(gu_I.up (j := 1) (k := 2) (v := y49) (gu_I.up (j := 1) (k := 5) (v := r4) (gu_I.up (j := 1) (k := 3) (v := 4) (gu_I.up (j := 1) (k := 5) (v := 0) (gu_I.up (j := 1) (k := 4) (v := (Gj38 1 2)) jI38 (show (0 : Int) ≤ Int32.toInt (Gj38 1 2) by omega) (show Int32.toInt (Gj38 1 2) ≤ 1000 by omega)) (ti_rng _).1 (ti_rng _).2) (show (0 : Int) ≤ (4 : Int32).toInt by decide) (show (4 : Int32).toInt ≤ 4 by decide)) (ti_rng _).1 (ti_rng _).2) (show (0 : Int) ≤ Int32.toInt y49 by omega) (show Int32.toInt y49 ≤ 1000 by omega)), (gu_un.up (j := 1) (k := 2) (v := y49) (gu_un.up (j := 1) (k := 5) (v := r4) (gu_un.up (j := 1) (k := 3) (v := 4) (gu_un.up (j := 1) (k := 5) (v := 0) (gu_un.up (j := 1) (k := 4) (v := (Gj38 1 2)) (gu_un.tr gu_un.rf (gu_un.su jU38 rfl)) (show (105 : Nat) ∈ ([103, 104, 105, 106] : List Nat) by decide)) (show (106 : Nat) ∈ ([103, 104, 105, 106] : List Nat) by decide)) (show (104 : Nat) ∈ ([103, 104, 105, 106] : List Nat) by decide)) (show (106 : Nat) ∈ ([103, 104, 105, 106] : List Nat) by decide)) (show (103 : Nat) ∈ ([103, 104, 105, 106] : List Nat) by decide)), (by have hc := q7 (by omega); rw [show (gu_up (gu_up (gu_up (gu_up (gu_up Gj38 1 4 (Gj38 1 2)) 1 5 0) 1 3 4) 1 5 r4) 1 2 y49) 1 2 = y49 from rfl, show (gu_up (gu_up (gu_up (gu_up (gu_up Gj38 1 4 (Gj38 1 2)) 1 5 0) 1 3 4) 1 5 r4) 1 2 y49) 1 3 = 4 from rfl, show (gu_up (gu_up (gu_up (gu_up (gu_up Gj38 1 4 (Gj38 1 2)) 1 5 0) 1 3 4) 1 5 r4) 1 2 y49) 1 4 = (Gj38 1 2) from rfl, show (gu_up (gu_up (gu_up (gu_up (gu_up Gj38 1 4 (Gj38 1 2)) 1 5 0) 1 3 4) 1 5 r4) 1 2 y49) 1 5 = r4 from rfl]; exact ⟨rr, Or.inr (Or.inr (Or.inr ⟨by omega, fun h9 => by have h8 : tLe _ := h9; omega, fun h9 => by have h8 : tDi _ := h9; omega, by omega, by have h6 := sgn_8 (hz47 (by omega)) (by omega) (by omega); rw [hc] at h6; first | exact Or.inl ⟨h6.mp (by omega), by decide, hc⟩ | exact Or.inr ⟨fun h5 => absurd (h6.mpr h5) (by omega), by decide⟩⟩))⟩), (by rw [show (gu_up (gu_up (gu_up (gu_up (gu_up Gj38 1 4 (Gj38 1 2)) 1 5 0) 1 3 4) 1 5 r4) 1 2 y49) 1 2 = y49 from rfl, show (gu_up (gu_up (gu_up (gu_up (gu_up Gj38 1 4 (Gj38 1 2)) 1 5 0) 1 3 4) 1 5 r4) 1 2 y49) 1 3 = 4 from rfl, show (gu_up (gu_up (gu_up (gu_up (gu_up Gj38 1 4 (Gj38 1 2)) 1 5 0) 1 3 4) 1 5 r4) 1 2 y49) 1 4 = (Gj38 1 2) from rfl, show (gu_up (gu_up (gu_up (gu_up (gu_up Gj38 1 4 (Gj38 1 2)) 1 5 0) 1 3 4) 1 5 r4) 1 2 y49) 1 5 = r4 from rfl]; intro h9; first | (exfalso; revert h9; decide) | (exfalso; omega))⟩) rfl rfl dX10_readToken_142
          · refine g_iconst F 3 dX10_readToken_119 (by decide) ?_
            refine g_goto F 124 dX10_readToken_120 (by decide) ?_
            refine xp_1_3 F i_X10 w_4 dX10_readToken_124 ?_
            refine g_aload_n F 1 dX10_readToken_127 rfl rfl ?_
            refine g_iload_n F 0 dX10_readToken_128 rfl rfl ?_
            refine xp_1_5 F i_X10 w_2 dX10_readToken_129 ?_
            refine g_aload_n F 1 dX10_readToken_132 rfl rfl ?_
            refine g_dup F dX10_readToken_133 rfl ?_
            refine xg_1_2 F i_X10 w_0 dX10_readToken_134 (Gj38 1 2) (rfl) ?_
            refine g_iconst F 1 dX10_readToken_137 (by decide) ?_
            refine u_iadd F dX10_readToken_138 (Gj38 1 2).toInt 1 rfl rfl (by omega) (by omega) (fun y50 ey50 => ?_)
            refine xp_1_2 F i_X10 w_0 dX10_readToken_139 ?_
            exact u_vret F hA hQ hr (gu_up (gu_up (gu_up (gu_up (gu_up Gj38 1 4 (Gj38 1 2)) 1 5 0) 1 3 3) 1 5 r4) 1 2 y50) (⟨(gu_I.up (j := 1) (k := 2) (v := y50) (gu_I.up (j := 1) (k := 5) (v := r4) (gu_I.up (j := 1) (k := 3) (v := 3) (gu_I.up (j := 1) (k := 5) (v := 0) (gu_I.up (j := 1) (k := 4) (v := (Gj38 1 2)) jI38 (show (0 : Int) ≤ Int32.toInt (Gj38 1 2) by omega) (show Int32.toInt (Gj38 1 2) ≤ 1000 by omega)) (ti_rng _).1 (ti_rng _).2) (show (0 : Int) ≤ (3 : Int32).toInt by decide) (show (3 : Int32).toInt ≤ 4 by decide)) (ti_rng _).1 (ti_rng _).2) (show (0 : Int) ≤ Int32.toInt y50 by omega) (show Int32.toInt y50 ≤ 1000 by omega)), (gu_un.up (j := 1) (k := 2) (v := y50) (gu_un.up (j := 1) (k := 5) (v := r4) (gu_un.up (j := 1) (k := 3) (v := 3) (gu_un.up (j := 1) (k := 5) (v := 0) (gu_un.up (j := 1) (k := 4) (v := (Gj38 1 2)) (gu_un.tr gu_un.rf (gu_un.su jU38 rfl)) (show (105 : Nat) ∈ ([103, 104, 105, 106] : List Nat) by decide)) (show (106 : Nat) ∈ ([103, 104, 105, 106] : List Nat) by decide)) (show (104 : Nat) ∈ ([103, 104, 105, 106] : List Nat) by decide)) (show (106 : Nat) ∈ ([103, 104, 105, 106] : List Nat) by decide)) (show (103 : Nat) ∈ ([103, 104, 105, 106] : List Nat) by decide)), (by have hc := q7 (by omega); rw [show (gu_up (gu_up (gu_up (gu_up (gu_up Gj38 1 4 (Gj38 1 2)) 1 5 0) 1 3 3) 1 5 r4) 1 2 y50) 1 2 = y50 from rfl, show (gu_up (gu_up (gu_up (gu_up (gu_up Gj38 1 4 (Gj38 1 2)) 1 5 0) 1 3 3) 1 5 r4) 1 2 y50) 1 3 = 3 from rfl, show (gu_up (gu_up (gu_up (gu_up (gu_up Gj38 1 4 (Gj38 1 2)) 1 5 0) 1 3 3) 1 5 r4) 1 2 y50) 1 4 = (Gj38 1 2) from rfl, show (gu_up (gu_up (gu_up (gu_up (gu_up Gj38 1 4 (Gj38 1 2)) 1 5 0) 1 3 3) 1 5 r4) 1 2 y50) 1 5 = r4 from rfl]; exact ⟨rr, Or.inr (Or.inr (Or.inr ⟨by omega, fun h9 => by have h8 : tLe _ := h9; omega, fun h9 => by have h8 : tDi _ := h9; omega, by omega, by have h6 := sgn_8 (hz47 (by omega)) (by omega) (by omega); rw [hc] at h6; first | exact Or.inl ⟨h6.mp (by omega), by decide, hc⟩ | exact Or.inr ⟨fun h5 => absurd (h6.mpr h5) (by omega), by decide⟩⟩))⟩), (by rw [show (gu_up (gu_up (gu_up (gu_up (gu_up Gj38 1 4 (Gj38 1 2)) 1 5 0) 1 3 3) 1 5 r4) 1 2 y50) 1 2 = y50 from rfl, show (gu_up (gu_up (gu_up (gu_up (gu_up Gj38 1 4 (Gj38 1 2)) 1 5 0) 1 3 3) 1 5 r4) 1 2 y50) 1 3 = 3 from rfl, show (gu_up (gu_up (gu_up (gu_up (gu_up Gj38 1 4 (Gj38 1 2)) 1 5 0) 1 3 3) 1 5 r4) 1 2 y50) 1 4 = (Gj38 1 2) from rfl, show (gu_up (gu_up (gu_up (gu_up (gu_up Gj38 1 4 (Gj38 1 2)) 1 5 0) 1 3 3) 1 5 r4) 1 2 y50) 1 5 = r4 from rfl]; intro h9; first | (exfalso; revert h9; decide) | (exfalso; omega))⟩) rfl rfl dX10_readToken_142
    · refine g_aload_n F 1 dX10_readToken_71 rfl rfl ?_
      refine g_iconst F 0 dX10_readToken_72 (by decide) ?_
      refine xp_1_3 F i_X10 w_4 dX10_readToken_73 ?_
      refine g_goto F 142 dX10_readToken_76 (by decide) ?_
      exact u_vret F hA hQ hr (gu_up (gu_up (gu_up Gj38 1 4 (Gj38 1 2)) 1 5 0) 1 3 0) (⟨(gu_I.up (j := 1) (k := 3) (v := 0) (gu_I.up (j := 1) (k := 5) (v := 0) (gu_I.up (j := 1) (k := 4) (v := (Gj38 1 2)) jI38 (show (0 : Int) ≤ Int32.toInt (Gj38 1 2) by omega) (show Int32.toInt (Gj38 1 2) ≤ 1000 by omega)) (ti_rng _).1 (ti_rng _).2) (show (0 : Int) ≤ (0 : Int32).toInt by decide) (show (0 : Int32).toInt ≤ 4 by decide)), (gu_un.up (j := 1) (k := 3) (v := 0) (gu_un.up (j := 1) (k := 5) (v := 0) (gu_un.up (j := 1) (k := 4) (v := (Gj38 1 2)) (gu_un.tr gu_un.rf (gu_un.su jU38 rfl)) (show (105 : Nat) ∈ ([103, 104, 105, 106] : List Nat) by decide)) (show (106 : Nat) ∈ ([103, 104, 105, 106] : List Nat) by decide)) (show (104 : Nat) ∈ ([103, 104, 105, 106] : List Nat) by decide)), (by rw [show (gu_up (gu_up (gu_up Gj38 1 4 (Gj38 1 2)) 1 5 0) 1 3 0) 1 2 = (Gj38 1 2) from rfl, show (gu_up (gu_up (gu_up Gj38 1 4 (Gj38 1 2)) 1 5 0) 1 3 0) 1 3 = 0 from rfl, show (gu_up (gu_up (gu_up Gj38 1 4 (Gj38 1 2)) 1 5 0) 1 3 0) 1 4 = (Gj38 1 2) from rfl, show (gu_up (gu_up (gu_up Gj38 1 4 (Gj38 1 2)) 1 5 0) 1 3 0) 1 5 = 0 from rfl]; exact ⟨rr, Or.inl ⟨by omega, by decide, rfl⟩⟩), (by rw [show (gu_up (gu_up (gu_up Gj38 1 4 (Gj38 1 2)) 1 5 0) 1 3 0) 1 2 = (Gj38 1 2) from rfl, show (gu_up (gu_up (gu_up Gj38 1 4 (Gj38 1 2)) 1 5 0) 1 3 0) 1 3 = 0 from rfl, show (gu_up (gu_up (gu_up Gj38 1 4 (Gj38 1 2)) 1 5 0) 1 3 0) 1 4 = (Gj38 1 2) from rfl, show (gu_up (gu_up (gu_up Gj38 1 4 (Gj38 1 2)) 1 5 0) 1 3 0) 1 5 = 0 from rfl]; intro h9; first | (exfalso; revert h9; decide) | (exfalso; omega))⟩) rfl rfl dX10_readToken_142
  have J_0 : ∀ (fuel : Nat) (Gj0 : gS), (2147483647 - (Gj0 1 2).toInt).toNat < fuel → (xI Gj0) → (gu_un xcd [103] G Gj0) → (tPre tBl (G 17) (G 1 1).toInt (G 1 2).toInt (Gj0 1 2).toInt) → gG p l e (gR 5 0 0 131) s m args below meth c D A 2 Q 0 0 (xW K a Gj0) (tK K) [(0, .ref (a 1))] 0 [] := by
    intro fuel
    induction fuel with
    | zero => intro Gj0 hm; exact absurd hm (Nat.not_lt_zero _)
    | succ fuel_0 ih_0 =>
      intro Gj0 hm_0 jI0 jU0 bp
      refine g_aload_n F 0 dX10_readToken_0 rfl rfl ?_
      refine xg_1_2 F i_X10 w_0 dX10_readToken_1 (Gj0 1 2) (rfl) ?_
      refine g_aload_n F 0 dX10_readToken_4 rfl rfl ?_
      refine xg_1_1 F i_X10 w_3 dX10_readToken_5 (G 1 1) (jU0 1 1 (by decide)) ?_
      have b51 : (0 : Int) ≤ (Gj0 1 2).toInt ∧ (Gj0 1 2).toInt ≤ 1000 := jI0 1 2
      refine v_icmp_ge F 38 dX10_readToken_8 (by decide) (Gj0 1 2).toInt (G 1 1).toInt rfl rfl (fun c52 => ?_) (fun c52 => ?_)
      · exact J_38 Gj0 jI0 (gu_un.tr gu_un.rf (gu_un.su jU0 rfl)) (⟨bp, fun h8 => by have h7 : tBl _ := h8.2; omega⟩)
      · refine g_aload_n F 0 dX10_readToken_11 rfl rfl ?_
        refine g_aload_n F 0 dX10_readToken_12 rfl rfl ?_
        refine xg_1_2 F i_X10 w_0 dX10_readToken_13 (Gj0 1 2) (rfl) ?_
        refine u_callVi (k := 0) (n := 0) (b := a 1) (As := [.int (Gj0 1 2)]) (st := []) F (fun sz => S_X10_byteAt l D K a Gj0 (Gj0 1 2) (Gj0 1 2).toInt rfl jI0 sz) (cwV 1 hts gX10_readToken_X10_byteAt rfl rfl rfl (by decide +kernel) ⟨Nat.le_of_ble_eq_true rfl, Nat.le_of_ble_eq_true rfl⟩) rfl 1 xc_1 rfl (Nat.le_of_ble_eq_true rfl) ⟨Nat.zero_le _, Nat.zero_le _⟩ dX10_readToken_16 (fun r53 _ hw54 => ?_)
        have q56 : (0 ≤ (Gj0 1 2).toInt → r53.toInt = yBi (G 17) (G 1 1).toInt (Gj0 1 2).toInt) := by have h9 := hw54.2; (try simp only [(show Gj0 1 1 = (G 1 1) from jU0 1 1 (by decide)), (show Gj0 17 = (G 17) from (show Gj0 17 = G 17 from funext fun k_ => jU0 17 k_ (show (1700 : Nat) ∉ ([103] : List Nat) by decide)))] at h9); first | exact h9 | omega
        have rg57 := hw54.1
        clear hw54
        refine u_call0 (k := 0) (n := 0) (As := [.int r53]) (st := []) F (fun sz => S_X10_isBlank l D r53 r53.toInt rfl sz) (va_cwS 1 hts gX10_readToken_X10_isBlank rfl rfl rfl (by decide +kernel) ⟨Nat.le_of_ble_eq_true rfl, Nat.le_of_ble_eq_true rfl⟩) rfl (Nat.le_of_ble_eq_true rfl) ⟨Nat.zero_le _, Nat.zero_le _⟩ dX10_readToken_19 (fun r58 _ hw59 => ?_)
        rcases hw59 with ⟨rfl, q61⟩ | ⟨rfl, q62⟩
        · refine v_if_eq F 38 dX10_readToken_22 (by decide) 1 rfl (fun c63 => absurd c63 (by decide)) (fun c63 => ?_)
          refine g_aload_n F 0 dX10_readToken_25 rfl rfl ?_
          refine g_dup F dX10_readToken_26 rfl ?_
          refine xg_1_2 F i_X10 w_0 dX10_readToken_27 (Gj0 1 2) (rfl) ?_
          refine g_iconst F 1 dX10_readToken_30 (by decide) ?_
          refine u_iadd F dX10_readToken_31 (Gj0 1 2).toInt 1 rfl rfl (by omega) (by omega) (fun y64 ey64 => ?_)
          refine xp_1_2 F i_X10 w_0 dX10_readToken_32 ?_
          refine g_goto F 0 dX10_readToken_35 (by decide) ?_
          exact ih_0 (gu_up Gj0 1 2 y64) (by have e9_1_2 : (gu_up Gj0 1 2 y64) 1 2 = y64 := rfl; (try simp only [e9_1_2, true_and, and_true]) <;> omega) (gu_I.up (j := 1) (k := 2) (v := y64) jI0 (show (0 : Int) ≤ Int32.toInt y64 by omega) (show Int32.toInt y64 ≤ 1000 by omega)) (gu_un.up (j := 1) (k := 2) (v := y64) (gu_un.tr gu_un.rf (gu_un.su jU0 rfl)) (show (103 : Nat) ∈ ([103] : List Nat) by decide)) (by have h9 := q56 (by omega); rw [show (gu_up Gj0 1 2 y64) 1 2 = y64 from rfl]; exact tPre.step bp (by omega) (show tBl _ by rw [← h9]; omega) (by omega))
        · refine v_if_eq F 38 dX10_readToken_22 (by decide) 0 rfl (fun c65 => ?_) (fun c65 => absurd c65 (by decide))
          exact J_38 Gj0 jI0 (gu_un.tr gu_un.rf (gu_un.su jU0 rfl)) (⟨bp, fun h8 => by have h9 := q56 (by omega); have h7 : tBl _ := h8.2; omega⟩)
  exact J_0 _ G (Nat.lt_succ_self _) hI gu_un.rf (tPre.rf)
