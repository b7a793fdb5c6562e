theorem dX13_is_0 : decode cX13_is 0 = .ok (.aload_n 0, 1) := by decide +kernel
theorem dX13_is_1 : decode cX13_is 1 = .ok (.getfield 31, 3) := by decide +kernel
theorem dX13_is_4 : decode cX13_is 4 = .ok (.iconst 1, 1) := by decide +kernel
theorem dX13_is_5 : decode cX13_is 5 = .ok (.if_icmp .ne 23, 3) := by decide +kernel
theorem dX13_is_8 : decode cX13_is 8 = .ok (.aload_n 0, 1) := by decide +kernel
theorem dX13_is_9 : decode cX13_is 9 = .ok (.getfield 24, 3) := by decide +kernel
theorem dX13_is_12 : decode cX13_is 12 = .ok (.aload_n 0, 1) := by decide +kernel
theorem dX13_is_13 : decode cX13_is 13 = .ok (.getfield 7, 3) := by decide +kernel
theorem dX13_is_16 : decode cX13_is 16 = .ok (.isub, 1) := by decide +kernel
theorem dX13_is_17 : decode cX13_is 17 = .ok (.aload_n 1, 1) := by decide +kernel
theorem dX13_is_18 : decode cX13_is 18 = .ok (.invokevirtual 44, 3) := by decide +kernel
theorem dX13_is_21 : decode cX13_is 21 = .ok (.if_icmp .ne 7, 3) := by decide +kernel
theorem dX13_is_24 : decode cX13_is 24 = .ok (.iconst 1, 1) := by decide +kernel
theorem dX13_is_25 : decode cX13_is 25 = .ok (.goto 4, 3) := by decide +kernel
theorem dX13_is_28 : decode cX13_is 28 = .ok (.iconst 0, 1) := by decide +kernel
theorem dX13_is_29 : decode cX13_is 29 = .ok (.istore_n 2, 1) := by decide +kernel
theorem dX13_is_30 : decode cX13_is 30 = .ok (.iconst 0, 1) := by decide +kernel
theorem dX13_is_31 : decode cX13_is 31 = .ok (.istore_n 3, 1) := by decide +kernel
theorem dX13_is_32 : decode cX13_is 32 = .ok (.iload_n 3, 1) := by decide +kernel
theorem dX13_is_33 : decode cX13_is 33 = .ok (.aload_n 1, 1) := by decide +kernel
theorem dX13_is_34 : decode cX13_is 34 = .ok (.invokevirtual 44, 3) := by decide +kernel
theorem dX13_is_37 : decode cX13_is 37 = .ok (.if_icmp .ge 38, 3) := by decide +kernel
theorem dX13_is_40 : decode cX13_is 40 = .ok (.iload_n 2, 1) := by decide +kernel
theorem dX13_is_41 : decode cX13_is 41 = .ok (.ifCond .eq 34, 3) := by decide +kernel
theorem dX13_is_44 : decode cX13_is 44 = .ok (.aload_n 0, 1) := by decide +kernel
theorem dX13_is_45 : decode cX13_is 45 = .ok (.getfield 20, 3) := by decide +kernel
theorem dX13_is_48 : decode cX13_is 48 = .ok (.aload_n 0, 1) := by decide +kernel
theorem dX13_is_49 : decode cX13_is 49 = .ok (.getfield 7, 3) := by decide +kernel
theorem dX13_is_52 : decode cX13_is 52 = .ok (.iload_n 3, 1) := by decide +kernel
theorem dX13_is_53 : decode cX13_is 53 = .ok (.iadd, 1) := by decide +kernel
theorem dX13_is_54 : decode cX13_is 54 = .ok (.baload, 1) := by decide +kernel
theorem dX13_is_55 : decode cX13_is 55 = .ok (.aload_n 1, 1) := by decide +kernel
theorem dX13_is_56 : decode cX13_is 56 = .ok (.iload_n 3, 1) := by decide +kernel
theorem dX13_is_57 : decode cX13_is 57 = .ok (.invokevirtual 49, 3) := by decide +kernel
theorem dX13_is_60 : decode cX13_is 60 = .ok (.if_icmp .ne 7, 3) := by decide +kernel
theorem dX13_is_63 : decode cX13_is 63 = .ok (.iconst 1, 1) := by decide +kernel
theorem dX13_is_64 : decode cX13_is 64 = .ok (.goto 4, 3) := by decide +kernel
theorem dX13_is_67 : decode cX13_is 67 = .ok (.iconst 0, 1) := by decide +kernel
theorem dX13_is_68 : decode cX13_is 68 = .ok (.istore_n 2, 1) := by decide +kernel
theorem dX13_is_69 : decode cX13_is 69 = .ok (.iinc 3 1, 3) := by decide +kernel
theorem dX13_is_72 : decode cX13_is 72 = .ok (.goto (-40), 3) := by decide +kernel
theorem dX13_is_75 : decode cX13_is 75 = .ok (.iload_n 2, 1) := by decide +kernel
theorem dX13_is_76 : decode cX13_is 76 = .ok (.ireturn, 1) := by decide +kernel
set_option maxRecDepth 20000 in
theorem ggX13_is_J0_charAt_5068e : GoodIn wsX13_is wsJ0_charAt_5068e := goodIn_r _ [20, 10, 21, 22, 23, 8, 24, 15, 16, 25, 26, 27, 28, 29, 30, 31, 32, 33, 34, 35, 36, 37, 38, 39, 40, 41, 42, 43, 44, 45, 46, 47, 48, 49, 50, 51, 52, 53] rfl (by decide +kernel)
set_option maxRecDepth 20000 in
theorem gX13_is_J0_charAt_5068e : GoodIn wsX13_is (wsV RX13 49 RJ0 yJ0_charAt_5068e wsJ0_charAt_5068e) := goodIn_app (goodIn_of _ (by decide +kernel)) ggX13_is_J0_charAt_5068e
set_option maxRecDepth 20000 in
theorem ggX13_is_J0_length_8abf5 : GoodIn wsX13_is wsJ0_length_8abf5 := goodIn_r _ [9, 10, 11, 12, 13, 8, 14, 15, 16] rfl (by decide +kernel)
set_option maxRecDepth 20000 in
theorem gX13_is_J0_length_8abf5 : GoodIn wsX13_is (wsV RX13 44 RJ0 yJ0_length_8abf5 wsJ0_length_8abf5) := goodIn_app (goodIn_of _ (by decide +kernel)) ggX13_is_J0_length_8abf5
set_option maxHeartbeats 4000000 in
set_option maxRecDepth 100000 in
theorem S_X13_is (l : Launch) (D : va_G) (K : Nat → ClassId) (a : Nat → Nat) (G : gS) (q v n : Nat) (bs : Nat → Int32) (hn : n ≤ 1000) (pb : ((G 0 5).toInt ≤ (G 0 3).toInt)) (b7 : (∀ j : Nat, j < n → (bs j &&& 255).toInt ≤ 127)) (hI : yI G) (sz : Nat) : KiZ (zS q v n bs) l yX13_is wsX13_is 5 125 D [.ref (a 0), .ref q] (yW K a G) (tK K) sz (fun (r : Int32) (_ : Unit) => (0 ≤ r.toInt ∧ r.toInt ≤ 1) ∧ (((r.toInt = 1 ∧ (G 0 6).toInt = 1 ∧ wMt (G 2) (G 0 3).toInt (G 0 4).toInt (G 0 5).toInt bs n) ∨ (r.toInt = 0 ∧ ¬ ((G 0 6).toInt = 1 ∧ wMt (G 2) (G 0 3).toInt (G 0 4).toInt (G 0 5).toInt bs n))))) (fun (_ : Unit) => (yW K a G)) := by
  unfold KiZ
  refine gz_ofW (cc := cX13_is) (lv := [(0, .ref (a 0)), (1, .ref q)]) (by decide) rfl (Nat.le_of_ble_eq_true rfl) rfl ?_
  intro p e s m args below meth c A Q hA hQ hZ F hr hnm
  have hts := F.2.2.2.2.1
  have w_0 : (Cond.fieldLink RX13 20 "QuietCutModel" "tape" "[B").before args s = true := hts _ (List.mem_of_getElem? (i := 4) rfl)
  have i_X13 : ∀ w ∈ u_ws RX13 TX13 73, w ∈ wsX13_is := fun _ h => List.mem_cons_of_mem _ (List.mem_append_right _ h)
  have w_1 : (Cond.fieldLink RX13 7 "QuietCutModel" "from" "I").before args s = true := hts _ (List.mem_of_getElem? (i := 3) rfl)
  have w_2 : (Cond.fieldLink RX13 31 "QuietCutModel" "hand" "I").before args s = true := hts _ (List.mem_of_getElem? (i := 1) rfl)
  have w_3 : (Cond.fieldLink RX13 24 "QuietCutModel" "behind" "I").before args s = true := hts _ (List.mem_of_getElem? (i := 2) rfl)
  have b1 : (0 : Int) ≤ (G 0 3).toInt ∧ (G 0 3).toInt ≤ 1000 := hI 0 3
  have b2 : (0 : Int) ≤ (G 0 4).toInt ∧ (G 0 4).toInt ≤ 1000 := hI 0 4
  have b3 : (0 : Int) ≤ (G 0 5).toInt ∧ (G 0 5).toInt ≤ 1000 := hI 0 5
  have b4 : (0 : Int) ≤ (G 0 6).toInt ∧ (G 0 6).toInt ≤ 4 := hI 0 6
  have J_32 : ∀ (fuel : Nat) (x32_2 : Int32) (x32_3 : Int32), (2147483647 - x32_3.toInt).toNat < fuel → (0 ≤ x32_2.toInt ∧ x32_2.toInt ≤ 1) → (0 ≤ x32_3.toInt ∧ x32_3.toInt ≤ 1000) → ((x32_2.toInt = 1 ∧ (G 0 6).toInt = 1 ∧ (G 0 5).toInt - (G 0 4).toInt = (n : Int) ∧ ∀ j : Nat, (j : Int) < x32_3.toInt → yBi (G 2) (G 0 3).toInt ((G 0 4).toInt + (j : Nat)) = (bs j &&& 255).toInt) ∨ (x32_2.toInt = 0 ∧ ¬ ((G 0 6).toInt = 1 ∧ wMt (G 2) (G 0 3).toInt (G 0 4).toInt (G 0 5).toInt bs n))) → ((0 ≤ x32_3.toInt ∧ x32_3.toInt ≤ (n : Int))) → gG p l e (gR 5 0 0 125) s m args below meth c D A 4 Q 0 0 (yW K a G) (tK K) [(0, .ref (a 0)), (1, .ref q), (2, .int x32_2), (3, .int x32_3)] 32 [] := by
    intro fuel
    induction fuel with
    | zero => intro x32_2 x32_3 hm; exact absurd hm (Nat.not_lt_zero _)
    | succ fuel_32 ih_32 =>
      intro x32_2 x32_3 hm_32 h32_2 h32_3 zi zj
      refine g_iload_n F 3 dX13_is_32 rfl rfl ?_
      refine g_aload_n F 1 dX13_is_33 rfl rfl ?_
      refine uz_call0Vi (k := 0) (n := 0) (b := q) (As := []) (st := [.int x32_3]) F zS_st hZ (fun sz => S_J0_length_8abf5 l D q v n bs hn   sz) (cwV 0 hts gX13_is_J0_length_8abf5 rfl rfl rfl (by decide +kernel) ⟨Nat.le_of_ble_eq_true rfl, Nat.le_of_ble_eq_true rfl⟩) hZ.1 rfl (Nat.le_of_ble_eq_true rfl) ⟨Nat.zero_le _, Nat.zero_le _⟩ dX13_is_34 (fun r5 _ hw6 => ?_)
      have hw6 : r5.toInt = (n : Int) := hw6
      refine v_icmp_ge F 75 dX13_is_37 (by decide) x32_3.toInt r5.toInt rfl rfl (fun c7 => ?_) (fun c7 => ?_)
      · refine g_iload_n F 2 dX13_is_75 rfl rfl ?_
        exact u_zret F hA hQ hr (ti_nar rfl (by omega) (by omega)) () (⟨(by have h9 := ti_rng x32_2; omega), (by rcases zi with ⟨h1, h2, h3, h4⟩ | ⟨h1, h2⟩ <;> first | exact Or.inl ⟨h1, h2, h3, fun j hj => h4 j (by omega)⟩ | exact Or.inr ⟨h1, h2⟩)⟩) rfl rfl dX13_is_76
      · refine g_iload_n F 2 dX13_is_40 rfl rfl ?_
        refine v_if_eq F 75 dX13_is_41 (by decide) x32_2.toInt rfl (fun c8 => ?_) (fun c8 => ?_)
        · refine g_iload_n F 2 dX13_is_75 rfl rfl ?_
          exact u_zret F hA hQ hr (ti_nar rfl (by omega) (by omega)) () (⟨(by have h9 := ti_rng x32_2; omega), (by rcases zi with ⟨h1, h2, h3, h4⟩ | ⟨h1, h2⟩ <;> first | exact Or.inl ⟨h1, h2, h3, fun j hj => h4 j (by omega)⟩ | exact Or.inr ⟨h1, h2⟩)⟩) rfl rfl dX13_is_76
        · obtain ⟨zi1, zi2, zi3, zi4⟩ : x32_2.toInt = 1 ∧ (G 0 6).toInt = 1 ∧ (G 0 5).toInt - (G 0 4).toInt = (n : Int) ∧ ∀ j : Nat, (j : Int) < x32_3.toInt → yBi (G 2) (G 0 3).toInt ((G 0 4).toInt + (j : Nat)) = (bs j &&& 255).toInt := by rcases zi with h9 | h9 <;> first | exact h9 | (exfalso; have h8 := h9.1; omega)
          refine g_aload_n F 0 dX13_is_44 rfl rfl ?_
          refine yg_0_1 F i_X13 w_0 dX13_is_45 ?_
          refine g_aload_n F 0 dX13_is_48 rfl rfl ?_
          refine yg_0_4 F i_X13 w_1 dX13_is_49 (G 0 4) (rfl) ?_
          refine g_iload_n F 3 dX13_is_52 rfl rfl ?_
          refine u_iadd F dX13_is_53 (G 0 4).toInt x32_3.toInt rfl rfl (by omega) (by omega) (fun y9 ey9 => ?_)
          refine u1_bald F 2 2 yc_2 rfl y9.toInt rfl (by omega) (by omega) dX13_is_54 ((G 2) (((G 0 4).toInt + x32_3.toInt)).toNat) (by rw [show y9.toInt = ((G 0 4).toInt + x32_3.toInt) by omega] <;> rfl) ?_
          have b10 : ((-128) : Int) ≤ ((G 2) (((G 0 4).toInt + x32_3.toInt)).toNat).toInt ∧ ((G 2) (((G 0 4).toInt + x32_3.toInt)).toNat).toInt ≤ 127 := hI 2 _
          refine g_aload_n F 1 dX13_is_55 rfl rfl ?_
          refine g_iload_n F 3 dX13_is_56 rfl rfl ?_
          refine uz_call0Vi (k := 0) (n := 0) (b := q) (As := [.int x32_3]) (st := [.int ((G 2) (((G 0 4).toInt + x32_3.toInt)).toNat)]) F zS_st hZ (fun sz => S_J0_charAt_5068e l D q v n bs hn x32_3 x32_3.toInt rfl (by omega) (by omega) sz) (cwV 1 hts gX13_is_J0_charAt_5068e rfl rfl rfl (by decide +kernel) ⟨Nat.le_of_ble_eq_true rfl, Nat.le_of_ble_eq_true rfl⟩) hZ.1 rfl (Nat.le_of_ble_eq_true rfl) ⟨Nat.zero_le _, Nat.zero_le _⟩ dX13_is_57 (fun r11 _ hw12 => ?_)
          have hz13 := hw12.2
          refine v_icmp_ne F 67 dX13_is_60 (by decide) ((G 2) (((G 0 4).toInt + x32_3.toInt)).toNat).toInt r11.toInt rfl rfl (fun c14 => ?_) (fun c14 => ?_)
          · refine g_iconst F 0 dX13_is_67 (by decide) ?_
            refine g_istore_n F [(2, .int 0), (0, .ref (a 0)), (1, .ref q), (3, .int x32_3)] dX13_is_68 rfl (by decide) rfl ?_
            refine u_iinc F (fun v_ => [(3, .int v_), (2, .int 0), (0, .ref (a 0)), (1, .ref q)]) dX13_is_69 (j := 3) rfl x32_3.toInt 1 rfl rfl (by omega) (by omega) (by decide) (fun _ => rfl) (fun y15 ey15 => ?_)
            refine g_goto F 32 dX13_is_72 (by decide) ?_
            refine g_locals [(0, .ref (a 0)), (1, .ref q), (2, .int 0), (3, .int y15)] [2, 3, 1, 0] rfl ?_
            exact ih_32 0 y15 (by omega) (by decide) (by have h9 := ti_rng y15; omega) (Or.inr ⟨by decide, fun h9 => by have h8 := h9.2.2 x32_3.toInt.toNat (by omega); rw [show (G 0 4).toInt + ((x32_3.toInt.toNat : Nat) : Int) = ((G 0 4).toInt + x32_3.toInt) by omega] at h8; have h6 := hz13; have h5 := b7 x32_3.toInt.toNat (by omega); have h7 := yBi_raw (b := G 2) (n := (G 0 3).toInt) (k := ((G 0 4).toInt + x32_3.toInt)) (by omega) (by omega) (by omega); rw [h7] at h8; split at h8 <;> omega⟩) (by (first | omega | (simp only [Int32.reduceToInt, true_and, and_true, ne_eq, not_true_eq_false, false_and, or_false, false_or, true_or, or_true, false_implies] <;> omega)))
          · refine g_iconst F 1 dX13_is_63 (by decide) ?_
            refine g_goto F 68 dX13_is_64 (by decide) ?_
            refine g_istore_n F [(2, .int 1), (0, .ref (a 0)), (1, .ref q), (3, .int x32_3)] dX13_is_68 rfl (by decide) rfl ?_
            refine u_iinc F (fun v_ => [(3, .int v_), (2, .int 1), (0, .ref (a 0)), (1, .ref q)]) dX13_is_69 (j := 3) rfl x32_3.toInt 1 rfl rfl (by omega) (by omega) (by decide) (fun _ => rfl) (fun y16 ey16 => ?_)
            refine g_goto F 32 dX13_is_72 (by decide) ?_
            refine g_locals [(0, .ref (a 0)), (1, .ref q), (2, .int 1), (3, .int y16)] [2, 3, 1, 0] rfl ?_
            exact ih_32 1 y16 (by omega) (by decide) (by have h9 := ti_rng y16; omega) (Or.inl ⟨by decide, by omega, by omega, all_1 zi4 (by omega) (by omega) (by rw [show (G 0 4).toInt + ((x32_3.toInt.toNat : Nat) : Int) = ((G 0 4).toInt + x32_3.toInt) by omega]; have h8 := hz13; have h7 := yBi_raw (b := G 2) (n := (G 0 3).toInt) (k := ((G 0 4).toInt + x32_3.toInt)) (by omega) (by omega) (by omega); rw [h7]; split <;> omega)⟩) (by (first | omega | (simp only [Int32.reduceToInt, true_and, and_true, ne_eq, not_true_eq_false, false_and, or_false, false_or, true_or, or_true, false_implies] <;> omega)))
  refine g_aload_n F 0 dX13_is_0 rfl rfl ?_
  refine yg_0_6 F i_X13 w_2 dX13_is_1 (G 0 6) (rfl) ?_
  refine g_iconst F 1 dX13_is_4 (by decide) ?_
  refine v_icmp_ne F 28 dX13_is_5 (by decide) (G 0 6).toInt 1 rfl rfl (fun c17 => ?_) (fun c17 => ?_)
  · refine g_iconst F 0 dX13_is_28 (by decide) ?_
    refine g_istore_n F [(2, .int 0), (0, .ref (a 0)), (1, .ref q)] dX13_is_29 rfl (by decide) rfl ?_
    refine g_iconst F 0 dX13_is_30 (by decide) ?_
    refine g_istore_n F [(3, .int 0), (2, .int 0), (0, .ref (a 0)), (1, .ref q)] dX13_is_31 rfl (by decide) rfl ?_
    refine g_locals [(0, .ref (a 0)), (1, .ref q), (2, .int 0), (3, .int 0)] [2, 3, 1, 0] rfl ?_
    exact J_32 _ 0 0 (Nat.lt_succ_self _) (by decide) (by decide) (Or.inr ⟨by decide, fun h9 => by have h8 := h9.2.1; omega⟩) (by (first | omega | (simp only [Int32.reduceToInt, true_and, and_true, ne_eq, not_true_eq_false, false_and, or_false, false_or, true_or, or_true, false_implies] <;> omega)))
  · refine g_aload_n F 0 dX13_is_8 rfl rfl ?_
    refine yg_0_5 F i_X13 w_3 dX13_is_9 (G 0 5) (rfl) ?_
    refine g_aload_n F 0 dX13_is_12 rfl rfl ?_
    refine yg_0_4 F i_X13 w_1 dX13_is_13 (G 0 4) (rfl) ?_
    refine u_isub F dX13_is_16 (G 0 5).toInt (G 0 4).toInt rfl rfl (by omega) (by omega) (fun y18 ey18 => ?_)
    refine g_aload_n F 1 dX13_is_17 rfl rfl ?_
    refine uz_call0Vi (k := 0) (n := 0) (b := q) (As := []) (st := [.int y18]) F zS_st hZ (fun sz => S_J0_length_8abf5 l D q v n bs hn   sz) (cwV 0 hts gX13_is_J0_length_8abf5 rfl rfl rfl (by decide +kernel) ⟨Nat.le_of_ble_eq_true rfl, Nat.le_of_ble_eq_true rfl⟩) hZ.1 rfl (Nat.le_of_ble_eq_true rfl) ⟨Nat.zero_le _, Nat.zero_le _⟩ dX13_is_18 (fun r19 _ hw20 => ?_)
    have hw20 : r19.toInt = (n : Int) := hw20
    refine v_icmp_ne F 28 dX13_is_21 (by decide) y18.toInt r19.toInt rfl rfl (fun c21 => ?_) (fun c21 => ?_)
    · refine g_iconst F 0 dX13_is_28 (by decide) ?_
      refine g_istore_n F [(2, .int 0), (0, .ref (a 0)), (1, .ref q)] dX13_is_29 rfl (by decide) rfl ?_
      refine g_iconst F 0 dX13_is_30 (by decide) ?_
      refine g_istore_n F [(3, .int 0), (2, .int 0), (0, .ref (a 0)), (1, .ref q)] dX13_is_31 rfl (by decide) rfl ?_
      refine g_locals [(0, .ref (a 0)), (1, .ref q), (2, .int 0), (3, .int 0)] [2, 3, 1, 0] rfl ?_
      exact J_32 _ 0 0 (Nat.lt_succ_self _) (by decide) (by decide) (Or.inr ⟨by decide, fun h9 => by have h8 := h9.2.1; omega⟩) (by (first | omega | (simp only [Int32.reduceToInt, true_and, and_true, ne_eq, not_true_eq_false, false_and, or_false, false_or, true_or, or_true, false_implies] <;> omega)))
    · refine g_iconst F 1 dX13_is_24 (by decide) ?_
      refine g_goto F 29 dX13_is_25 (by decide) ?_
      refine g_istore_n F [(2, .int 1), (0, .ref (a 0)), (1, .ref q)] dX13_is_29 rfl (by decide) rfl ?_
      refine g_iconst F 0 dX13_is_30 (by decide) ?_
      refine g_istore_n F [(3, .int 0), (2, .int 1), (0, .ref (a 0)), (1, .ref q)] dX13_is_31 rfl (by decide) rfl ?_
      refine g_locals [(0, .ref (a 0)), (1, .ref q), (2, .int 1), (3, .int 0)] [2, 3, 1, 0] rfl ?_
      exact J_32 _ 1 0 (Nat.lt_succ_self _) (by decide) (by decide) (Or.inl ⟨by decide, by omega, by omega, fun j hj => by have h9 : (j : Int) < 0 := hj; omega⟩) (by (first | omega | (simp only [Int32.reduceToInt, true_and, and_true, ne_eq, not_true_eq_false, false_and, or_false, false_or, true_or, or_true, false_implies] <;> omega)))
