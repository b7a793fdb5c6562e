theorem dX0_feedOf_0 : decode cX0_feedOf 0 = .ok (.iload_n 0, 1) := by decide +kernel
theorem dX0_feedOf_1 : decode cX0_feedOf 1 = .ok (.iconst 1, 1) := by decide +kernel
theorem dX0_feedOf_2 : decode cX0_feedOf 2 = .ok (.isub, 1) := by decide +kernel
theorem dX0_feedOf_3 : decode cX0_feedOf 3 = .ok (.bipush 20, 2) := by decide +kernel
theorem dX0_feedOf_5 : decode cX0_feedOf 5 = .ok (.irem, 1) := by decide +kernel
theorem dX0_feedOf_6 : decode cX0_feedOf 6 = .ok (.iconst 1, 1) := by decide +kernel
theorem dX0_feedOf_7 : decode cX0_feedOf 7 = .ok (.iadd, 1) := by decide +kernel
theorem dX0_feedOf_8 : decode cX0_feedOf 8 = .ok (.ireturn, 1) := by decide +kernel
set_option maxHeartbeats 4000000 in
set_option maxRecDepth 100000 in
theorem K_X0_feedOf (l : Launch) (D : va_G) (a : Int32) (sz : Nat) : Ki l yX0_feedOf wsX0_feedOf 1 30 0 0 D [.int a] [] [] sz (fun (r : Int32) (_ : Unit) => True) (fun (_ : Unit) => []) (fun (_ : Unit) => []) := by
  unfold Ki
  refine g_ofW (cc := cX0_feedOf) (lv := [(0, .int a)]) (by decide) rfl (Nat.le_of_ble_eq_true rfl) rfl ?_
  intro p e s m args below meth c A Q hA hQ F hr hnm
  have hts := F.2.2.2.2.1
  refine g_iload_n F 0 dX0_feedOf_0 rfl rfl ?_
  refine g_iconst F 1 dX0_feedOf_1 (by decide) ?_
  refine g_isub F dX0_feedOf_2 ?_
  refine g_bipush F 20 dX0_feedOf_3 (by decide) ?_
  refine g_irem F dX0_feedOf_5 (by decide) ?_
  refine g_iconst F 1 dX0_feedOf_6 (by decide) ?_
  refine g_iadd F dX0_feedOf_7 ?_
  exact g_iret F hA hQ hr () (trivial) [] [] rfl (by decide) rfl rfl dX0_feedOf_8

theorem dX0_leastOpening_0 : decode cX0_leastOpening 0 = .ok (.iconst (-1), 1) := by decide +kernel
theorem dX0_leastOpening_1 : decode cX0_leastOpening 1 = .ok (.istore_n 2, 1) := by decide +kernel
theorem dX0_leastOpening_2 : decode cX0_leastOpening 2 = .ok (.iconst 1, 1) := by decide +kernel
theorem dX0_leastOpening_3 : decode cX0_leastOpening 3 = .ok (.istore_n 3, 1) := by decide +kernel
theorem dX0_leastOpening_4 : decode cX0_leastOpening 4 = .ok (.iload_n 3, 1) := by decide +kernel
theorem dX0_leastOpening_5 : decode cX0_leastOpening 5 = .ok (.bipush 20, 2) := by decide +kernel
theorem dX0_leastOpening_7 : decode cX0_leastOpening 7 = .ok (.if_icmp .gt 140, 3) := by decide +kernel
theorem dX0_leastOpening_10 : decode cX0_leastOpening 10 = .ok (.iload_n 3, 1) := by decide +kernel
theorem dX0_leastOpening_11 : decode cX0_leastOpening 11 = .ok (.iload_n 1, 1) := by decide +kernel
theorem dX0_leastOpening_12 : decode cX0_leastOpening 12 = .ok (.if_icmp .gt 135, 3) := by decide +kernel
theorem dX0_leastOpening_15 : decode cX0_leastOpening 15 = .ok (.aload_n 0, 1) := by decide +kernel
theorem dX0_leastOpening_16 : decode cX0_leastOpening 16 = .ok (.getfield 9, 3) := by decide +kernel
theorem dX0_leastOpening_19 : decode cX0_leastOpening 19 = .ok (.iload_n 3, 1) := by decide +kernel
theorem dX0_leastOpening_20 : decode cX0_leastOpening 20 = .ok (.iaload, 1) := by decide +kernel
theorem dX0_leastOpening_21 : decode cX0_leastOpening 21 = .ok (.istore 4, 2) := by decide +kernel
theorem dX0_leastOpening_23 : decode cX0_leastOpening 23 = .ok (.iload_n 1, 1) := by decide +kernel
theorem dX0_leastOpening_24 : decode cX0_leastOpening 24 = .ok (.iload_n 3, 1) := by decide +kernel
theorem dX0_leastOpening_25 : decode cX0_leastOpening 25 = .ok (.isub, 1) := by decide +kernel
theorem dX0_leastOpening_26 : decode cX0_leastOpening 26 = .ok (.istore 5, 2) := by decide +kernel
theorem dX0_leastOpening_28 : decode cX0_leastOpening 28 = .ok (.iload 4, 2) := by decide +kernel
theorem dX0_leastOpening_30 : decode cX0_leastOpening 30 = .ok (.ifCond .eq 111, 3) := by decide +kernel
theorem dX0_leastOpening_33 : decode cX0_leastOpening 33 = .ok (.iload 5, 2) := by decide +kernel
theorem dX0_leastOpening_35 : decode cX0_leastOpening 35 = .ok (.sipush 400, 3) := by decide +kernel
theorem dX0_leastOpening_38 : decode cX0_leastOpening 38 = .ok (.if_icmp .gt 103, 3) := by decide +kernel
theorem dX0_leastOpening_41 : decode cX0_leastOpening 41 = .ok (.iload_n 1, 1) := by decide +kernel
theorem dX0_leastOpening_42 : decode cX0_leastOpening 42 = .ok (.sipush 400, 3) := by decide +kernel
theorem dX0_leastOpening_45 : decode cX0_leastOpening 45 = .ok (.if_icmp .gt 96, 3) := by decide +kernel
theorem dX0_leastOpening_48 : decode cX0_leastOpening 48 = .ok (.aload_n 0, 1) := by decide +kernel
theorem dX0_leastOpening_49 : decode cX0_leastOpening 49 = .ok (.getfield 15, 3) := by decide +kernel
theorem dX0_leastOpening_52 : decode cX0_leastOpening 52 = .ok (.iload 5, 2) := by decide +kernel
theorem dX0_leastOpening_54 : decode cX0_leastOpening 54 = .ok (.iaload, 1) := by decide +kernel
theorem dX0_leastOpening_55 : decode cX0_leastOpening 55 = .ok (.iconst (-1), 1) := by decide +kernel
theorem dX0_leastOpening_56 : decode cX0_leastOpening 56 = .ok (.if_icmp .ne 6, 3) := by decide +kernel
theorem dX0_leastOpening_59 : decode cX0_leastOpening 59 = .ok (.goto 82, 3) := by decide +kernel
theorem dX0_leastOpening_62 : decode cX0_leastOpening 62 = .ok (.bipush 20, 2) := by decide +kernel
theorem dX0_leastOpening_64 : decode cX0_leastOpening 64 = .ok (.iload 4, 2) := by decide +kernel
theorem dX0_leastOpening_66 : decode cX0_leastOpening 66 = .ok (.imul, 1) := by decide +kernel
theorem dX0_leastOpening_67 : decode cX0_leastOpening 67 = .ok (.iload_n 3, 1) := by decide +kernel
theorem dX0_leastOpening_68 : decode cX0_leastOpening 68 = .ok (.iadd, 1) := by decide +kernel
theorem dX0_leastOpening_69 : decode cX0_leastOpening 69 = .ok (.istore 6, 2) := by decide +kernel
theorem dX0_leastOpening_71 : decode cX0_leastOpening 71 = .ok (.aload_n 0, 1) := by decide +kernel
theorem dX0_leastOpening_72 : decode cX0_leastOpening 72 = .ok (.getfield 15, 3) := by decide +kernel
theorem dX0_leastOpening_75 : decode cX0_leastOpening 75 = .ok (.iload 5, 2) := by decide +kernel
theorem dX0_leastOpening_77 : decode cX0_leastOpening 77 = .ok (.iaload, 1) := by decide +kernel
theorem dX0_leastOpening_78 : decode cX0_leastOpening 78 = .ok (.aload_n 0, 1) := by decide +kernel
theorem dX0_leastOpening_79 : decode cX0_leastOpening 79 = .ok (.getfield 24, 3) := by decide +kernel
theorem dX0_leastOpening_82 : decode cX0_leastOpening 82 = .ok (.iload 4, 2) := by decide +kernel
theorem dX0_leastOpening_84 : decode cX0_leastOpening 84 = .ok (.invokevirtual 64, 3) := by decide +kernel
theorem dX0_leastOpening_87 : decode cX0_leastOpening 87 = .ok (.iadd, 1) := by decide +kernel
theorem dX0_leastOpening_88 : decode cX0_leastOpening 88 = .ok (.aload_n 0, 1) := by decide +kernel
theorem dX0_leastOpening_89 : decode cX0_leastOpening 89 = .ok (.getfield 15, 3) := by decide +kernel
theorem dX0_leastOpening_92 : decode cX0_leastOpening 92 = .ok (.iload_n 1, 1) := by decide +kernel
theorem dX0_leastOpening_93 : decode cX0_leastOpening 93 = .ok (.iaload, 1) := by decide +kernel
theorem dX0_leastOpening_94 : decode cX0_leastOpening 94 = .ok (.if_icmp .ne 25, 3) := by decide +kernel
theorem dX0_leastOpening_97 : decode cX0_leastOpening 97 = .ok (.aload_n 0, 1) := by decide +kernel
theorem dX0_leastOpening_98 : decode cX0_leastOpening 98 = .ok (.getfield 18, 3) := by decide +kernel
theorem dX0_leastOpening_101 : decode cX0_leastOpening 101 = .ok (.iload 5, 2) := by decide +kernel
theorem dX0_leastOpening_103 : decode cX0_leastOpening 103 = .ok (.iaload, 1) := by decide +kernel
theorem dX0_leastOpening_104 : decode cX0_leastOpening 104 = .ok (.iconst 1, 1) := by decide +kernel
theorem dX0_leastOpening_105 : decode cX0_leastOpening 105 = .ok (.iadd, 1) := by decide +kernel
theorem dX0_leastOpening_106 : decode cX0_leastOpening 106 = .ok (.aload_n 0, 1) := by decide +kernel
theorem dX0_leastOpening_107 : decode cX0_leastOpening 107 = .ok (.getfield 18, 3) := by decide +kernel
theorem dX0_leastOpening_110 : decode cX0_leastOpening 110 = .ok (.iload_n 1, 1) := by decide +kernel
theorem dX0_leastOpening_111 : decode cX0_leastOpening 111 = .ok (.iaload, 1) := by decide +kernel
theorem dX0_leastOpening_112 : decode cX0_leastOpening 112 = .ok (.if_icmp .ne 7, 3) := by decide +kernel
theorem dX0_leastOpening_115 : decode cX0_leastOpening 115 = .ok (.iconst 1, 1) := by decide +kernel
theorem dX0_leastOpening_116 : decode cX0_leastOpening 116 = .ok (.goto 4, 3) := by decide +kernel
theorem dX0_leastOpening_119 : decode cX0_leastOpening 119 = .ok (.iconst 0, 1) := by decide +kernel
theorem dX0_leastOpening_120 : decode cX0_leastOpening 120 = .ok (.istore 7, 2) := by decide +kernel
theorem dX0_leastOpening_122 : decode cX0_leastOpening 122 = .ok (.iload 7, 2) := by decide +kernel
theorem dX0_leastOpening_124 : decode cX0_leastOpening 124 = .ok (.ifCond .eq 17, 3) := by decide +kernel
theorem dX0_leastOpening_127 : decode cX0_leastOpening 127 = .ok (.iload_n 2, 1) := by decide +kernel
theorem dX0_leastOpening_128 : decode cX0_leastOpening 128 = .ok (.iconst (-1), 1) := by decide +kernel
theorem dX0_leastOpening_129 : decode cX0_leastOpening 129 = .ok (.if_icmp .eq 9, 3) := by decide +kernel
theorem dX0_leastOpening_132 : decode cX0_leastOpening 132 = .ok (.iload 6, 2) := by decide +kernel
theorem dX0_leastOpening_134 : decode cX0_leastOpening 134 = .ok (.iload_n 2, 1) := by decide +kernel
theorem dX0_leastOpening_135 : decode cX0_leastOpening 135 = .ok (.if_icmp .ge 6, 3) := by decide +kernel
theorem dX0_leastOpening_138 : decode cX0_leastOpening 138 = .ok (.iload 6, 2) := by decide +kernel
theorem dX0_leastOpening_140 : decode cX0_leastOpening 140 = .ok (.istore_n 2, 1) := by decide +kernel
theorem dX0_leastOpening_141 : decode cX0_leastOpening 141 = .ok (.iinc 3 1, 3) := by decide +kernel
theorem dX0_leastOpening_144 : decode cX0_leastOpening 144 = .ok (.goto (-140), 3) := by decide +kernel
theorem dX0_leastOpening_147 : decode cX0_leastOpening 147 = .ok (.iload_n 2, 1) := by decide +kernel
theorem dX0_leastOpening_148 : decode cX0_leastOpening 148 = .ok (.ireturn, 1) := by decide +kernel
set_option maxRecDepth 20000 in
theorem ggX0_leastOpening_X7_passTime : GoodIn wsX0_leastOpening wsX7_passTime := goodIn_r _ [9, 10, 11, 12, 13, 8, 14, 15, 16, 17, 18, 27, 28, 29, 30] rfl (by decide +kernel)
set_option maxRecDepth 20000 in
theorem gX0_leastOpening_X7_passTime : GoodIn wsX0_leastOpening (wsV RX0 64 RX7 yX7_passTime wsX7_passTime) := goodIn_app (goodIn_of _ (by decide +kernel)) ggX0_leastOpening_X7_passTime
set_option maxHeartbeats 4000000 in
set_option maxRecDepth 100000 in
theorem K_X0_leastOpening (l : Launch) (D : va_G) (xc : Nat) (xs : Nat) (xp : Nat) (xl : Nat) (ch_s : Nat) (ch_t : Nat) (ch_f : Nat) (ch_p : Nat) (n : Nat) (fo : Nat) (wa : Nat) (we : Nat) (cI : ClassId) (s0 : Nat → Int32) (t0 : Nat → Int32) (f0 : Nat → Int32) (op : Int32) (pm : Int32) (sz : Nat) : Ki l yX0_leastOpening wsX0_leastOpening 3 86 0 0 D [.ref xc, .int op] [(xc, .inr (0, [.ref xs, .ref xp, .ref xl, .ref ch_s, .ref ch_t, .ref ch_f, .ref ch_p, .int pm])), (xs, .inr (6, [.ref n, .ref fo, .ref wa, .ref we])), (n, .inl (cI, 36, .inl g_nums)), (ch_s, .inl (cI, 21, .inl s0)), (ch_t, .inl (cI, 401, .inl t0)), (ch_f, .inl (cI, 401, .inl f0))] [(cI, .int)] sz (fun (r : Int32) (_ : Unit) => True) (fun (_ : Unit) => [(xc, .inr (0, [.ref xs, .ref xp, .ref xl, .ref ch_s, .ref ch_t, .ref ch_f, .ref ch_p, .int pm])), (xs, .inr (6, [.ref n, .ref fo, .ref wa, .ref we])), (n, .inl (cI, 36, .inl g_nums)), (ch_s, .inl (cI, 21, .inl s0)), (ch_t, .inl (cI, 401, .inl t0)), (ch_f, .inl (cI, 401, .inl f0))]) (fun (_ : Unit) => [(cI, .int)]) := by
  unfold Ki
  refine g_ofW (cc := cX0_leastOpening) (lv := [(0, .ref xc), (1, .int op)]) (by decide) rfl (Nat.le_of_ble_eq_true rfl) rfl ?_
  intro p e s m args below meth c A Q hA hQ F hr hnm
  have hts := F.2.2.2.2.1
  have w_0 : (Cond.fieldLink RX0 9 "QuietCut$Chooser" "speedOf" "[I").before args s = true := hts _ (List.mem_of_getElem? (i := 1) rfl)
  have i_X0 : ∀ w ∈ u_ws RX0 TX0 8, w ∈ wsX0_leastOpening := fun _ h => List.mem_cons_of_mem _ (List.mem_append_left _ (List.mem_append_right _ h))
  have w_1 : (Cond.fieldLink RX0 15 "QuietCut$Chooser" "leastTime" "[I").before args s = true := hts _ (List.mem_of_getElem? (i := 2) rfl)
  have w_2 : (Cond.fieldLink RX0 24 "QuietCut$Chooser" "shop" "LQuietCut$Shop;").before args s = true := hts _ (List.mem_of_getElem? (i := 3) rfl)
  have w_3 : (Cond.fieldLink RX0 18 "QuietCut$Chooser" "fewest" "[I").before args s = true := hts _ (List.mem_of_getElem? (i := 4) rfl)
  refine g_iconst F (-1) dX0_leastOpening_0 (by decide) ?_
  refine g_istore_n F [(2, .int (-1)), (0, .ref xc), (1, .int op)] dX0_leastOpening_1 rfl (by decide) rfl ?_
  refine g_iconst F 1 dX0_leastOpening_2 (by decide) ?_
  refine g_istore_n F [(3, .int 1), (2, .int (-1)), (0, .ref xc), (1, .int op)] dX0_leastOpening_3 rfl (by decide) rfl ?_
  refine g_locals [(0, .ref xc), (1, .int op), (2, .int (-1)), (3, .int 1)] [2, 3, 1, 0] rfl ?_
  have loop_4 : ∀ (fuel : Nat) (k : Nat) (le_ : Int32), 20 - k < fuel → (k ≤ 20) → gG p l e (gR 3 0 0 86) s m args below meth c D A 8 Q 0 0 [(xc, .inr (0, [.ref xs, .ref xp, .ref xl, .ref ch_s, .ref ch_t, .ref ch_f, .ref ch_p, .int pm])), (xs, .inr (6, [.ref n, .ref fo, .ref wa, .ref we])), (n, .inl (cI, 36, .inl g_nums)), (ch_s, .inl (cI, 21, .inl s0)), (ch_t, .inl (cI, 401, .inl t0)), (ch_f, .inl (cI, 401, .inl f0))] [(cI, .int)] [(0, .ref xc), (1, .int op), (2, .int le_), (3, .int (nI (k + 1)))] 4 [] := by
    intro fuel_4
    induction fuel_4 with
    | zero => intro k le_ hm; exact absurd hm (Nat.not_lt_zero _)
    | succ fuel_4 ih_4 =>
      intro k le_ hm4 hk0
      refine g_iload_n F 3 dX0_leastOpening_4 rfl rfl ?_
      refine g_bipush F 20 dX0_leastOpening_5 (by decide) ?_
      refine g_icmp_gt F 147 dX0_leastOpening_7 (by decide) (fun c_7 => ?_) (fun c_7 => ?_)
      · refine g_iload_n F 2 dX0_leastOpening_147 rfl rfl ?_
        exact g_iret F hA hQ hr () (trivial) [0, 1, 2, 3, 4, 5] [0] rfl (by decide) rfl rfl dX0_leastOpening_148
      · have hk : k + 1 ≤ 20 := by rcases Nat.lt_or_ge k 20 with h | h; omega; exact absurd (nI_lt (a := 20) (b := k + 1) (by omega) (by omega)) c_7
        refine g_iload_n F 3 dX0_leastOpening_10 rfl rfl ?_
        refine g_iload_n F 1 dX0_leastOpening_11 rfl rfl ?_
        refine g_icmp_gt F 147 dX0_leastOpening_12 (by decide) (fun c_12 => ?_) (fun c_12 => ?_)
        · refine g_iload_n F 2 dX0_leastOpening_147 rfl rfl ?_
          exact g_iret F hA hQ hr () (trivial) [0, 1, 2, 3, 4, 5] [0] rfl (by decide) rfl rfl dX0_leastOpening_148
        · have hrest := i32_rest (op := op) (k := k + 1) (by omega) c_12
          have hop : (k : Int) + 1 ≤ op.toInt := by have h9 := c_12; rw [Int32.lt_iff_toInt_lt, nI_toInt (by omega)] at h9; omega
          refine g_aload_n F 0 dX0_leastOpening_15 rfl rfl ?_
          refine g_get (C := RX0) (T := TX0) (N := 8) (v := .ref ch_s) F i_X0 0 rfl rfl 3 (by decide) w_0 rfl rfl dX0_leastOpening_16 ?_
          refine g_iload_n F 3 dX0_leastOpening_19 rfl rfl ?_
          refine g_iald F 3 0 rfl rfl (vp_in_nI (by omega) (by decide)) dX0_leastOpening_20 ?_
          refine g_fold (s0 (k + 1)) (by rw [nI_clamp (by omega)]) ?_
          refine g_istore F [(4, .int (s0 (k + 1))), (0, .ref xc), (1, .int op), (2, .int le_), (3, .int (nI (k + 1)))] dX0_leastOpening_21 (by decide) rfl ?_
          refine g_iload_n F 2 dX0_leastOpening_23 rfl rfl ?_
          refine g_iload_n F 4 dX0_leastOpening_24 rfl rfl ?_
          refine g_isub F dX0_leastOpening_25 ?_
          refine g_istore F [(5, .int (op - (nI (k + 1)))), (4, .int (s0 (k + 1))), (0, .ref xc), (1, .int op), (2, .int le_), (3, .int (nI (k + 1)))] dX0_leastOpening_26 (by decide) rfl ?_
          refine g_iload F 1 dX0_leastOpening_28 rfl ?_
          refine g_if_eq F 141 dX0_leastOpening_30 (by decide) (fun c_30 => ?_) (fun c_30 => ?_)
          · refine g_iinc F (j := 5) (nI (k + 1 + 1)) [(3, .int (nI (k + 1 + 1))), (5, .int (op - (nI (k + 1)))), (4, .int (s0 (k + 1))), (0, .ref xc), (1, .int op), (2, .int le_)] dX0_leastOpening_141 rfl (nI_1 (k + 1)) (by decide) rfl ?_
            refine g_goto F 4 dX0_leastOpening_144 (by decide) ?_
            refine g_locals [(0, .ref xc), (1, .int op), (2, .int le_), (3, .int (nI (k + 1 + 1)))] [3, 4, 5, 0] rfl ?_
            exact ih_4 (k + 1) le_ (by omega) (hk)
          · refine g_iload F 0 dX0_leastOpening_33 rfl ?_
            refine g_sipush F 400 dX0_leastOpening_35 (by decide) ?_
            refine g_icmp_gt F 141 dX0_leastOpening_38 (by decide) (fun c_38 => ?_) (fun c_38 => ?_)
            · refine g_iinc F (j := 5) (nI (k + 1 + 1)) [(3, .int (nI (k + 1 + 1))), (5, .int (op - (nI (k + 1)))), (4, .int (s0 (k + 1))), (0, .ref xc), (1, .int op), (2, .int le_)] dX0_leastOpening_141 rfl (nI_1 (k + 1)) (by decide) rfl ?_
              refine g_goto F 4 dX0_leastOpening_144 (by decide) ?_
              refine g_locals [(0, .ref xc), (1, .int op), (2, .int le_), (3, .int (nI (k + 1 + 1)))] [3, 4, 5, 0] rfl ?_
              exact ih_4 (k + 1) le_ (by omega) (hk)
            · refine g_iload_n F 3 dX0_leastOpening_41 rfl rfl ?_
              refine g_sipush F 400 dX0_leastOpening_42 (by decide) ?_
              refine g_icmp_gt F 141 dX0_leastOpening_45 (by decide) (fun c_45 => ?_) (fun c_45 => ?_)
              · refine g_iinc F (j := 5) (nI (k + 1 + 1)) [(3, .int (nI (k + 1 + 1))), (5, .int (op - (nI (k + 1)))), (4, .int (s0 (k + 1))), (0, .ref xc), (1, .int op), (2, .int le_)] dX0_leastOpening_141 rfl (nI_1 (k + 1)) (by decide) rfl ?_
                refine g_goto F 4 dX0_leastOpening_144 (by decide) ?_
                refine g_locals [(0, .ref xc), (1, .int op), (2, .int le_), (3, .int (nI (k + 1 + 1)))] [3, 4, 5, 0] rfl ?_
                exact ih_4 (k + 1) le_ (by omega) (hk)
              · refine g_aload_n F 2 dX0_leastOpening_48 rfl rfl ?_
                refine g_get (C := RX0) (T := TX0) (N := 8) (v := .ref ch_t) F i_X0 0 rfl rfl 4 (by decide) w_1 rfl rfl dX0_leastOpening_49 ?_
                refine g_iload F 0 dX0_leastOpening_52 rfl ?_
                refine g_iald F 4 0 rfl rfl (i32_in (N := 401) (by rw [Int32.le_iff_toInt_le, hrest, show (0 : Int32).toInt = 0 from rfl]; omega) (by simp only [Int32.lt_iff_toInt_lt, Int32.le_iff_toInt_le, ← Int32.toInt_inj, Int32.reduceToInt] at c_38; omega)) dX0_leastOpening_54 ?_
                refine g_iconst F (-1) dX0_leastOpening_55 (by decide) ?_
                refine g_icmp_ne F 62 dX0_leastOpening_56 (by decide) (fun c_56 => ?_) (fun c_56 => ?_)
                · refine g_bipush F 20 dX0_leastOpening_62 (by decide) ?_
                  refine g_iload F 1 dX0_leastOpening_64 rfl ?_
                  refine g_imul F dX0_leastOpening_66 ?_
                  refine g_iload_n F 5 dX0_leastOpening_67 rfl rfl ?_
                  refine g_iadd F dX0_leastOpening_68 ?_
                  refine g_istore F [(6, .int ((20 * (s0 (k + 1))) + (nI (k + 1)))), (5, .int (op - (nI (k + 1)))), (4, .int (s0 (k + 1))), (0, .ref xc), (1, .int op), (2, .int le_), (3, .int (nI (k + 1)))] dX0_leastOpening_69 (by decide) rfl ?_
                  refine g_aload_n F 3 dX0_leastOpening_71 rfl rfl ?_
                  refine g_get (C := RX0) (T := TX0) (N := 8) (v := .ref ch_t) F i_X0 0 rfl rfl 4 (by decide) w_1 rfl rfl dX0_leastOpening_72 ?_
                  refine g_iload F 1 dX0_leastOpening_75 rfl ?_
                  refine g_iald F 4 0 rfl rfl (i32_in (N := 401) (by rw [Int32.le_iff_toInt_le, hrest, show (0 : Int32).toInt = 0 from rfl]; omega) (by simp only [Int32.lt_iff_toInt_lt, Int32.le_iff_toInt_le, ← Int32.toInt_inj, Int32.reduceToInt] at c_38; omega)) dX0_leastOpening_77 ?_
                  refine g_aload_n F 3 dX0_leastOpening_78 rfl rfl ?_
                  refine g_get (C := RX0) (T := TX0) (N := 8) (v := .ref xs) F i_X0 0 rfl rfl 0 (by decide) w_2 rfl rfl dX0_leastOpening_79 ?_
                  refine g_iload F 2 dX0_leastOpening_82 rfl ?_
                  refine g_callVi (k := 0) (n := 0) (b := xs) (As := [.int (s0 (k + 1))]) (st := [.int (t0 (op - (nI (k + 1))).toNatClampNeg)]) (wc := [(xs, .inr (6, [.ref n, .ref fo, .ref wa, .ref we])), (n, .inl (cI, 36, .inl g_nums))]) (wr := [(xc, .inr (0, [.ref xs, .ref xp, .ref xl, .ref ch_s, .ref ch_t, .ref ch_f, .ref ch_p, .int pm])), (ch_s, .inl (cI, 21, .inl s0)), (ch_t, .inl (cI, 401, .inl t0)), (ch_f, .inl (cI, 401, .inl f0))]) F [1, 2] [0, 3, 4, 5] [0] rfl rfl (by decide) rfl (by decide) (by decide) rfl (fun sz => K_X7_passTime l D xs n fo wa we cI (s0 (k + 1))  sz) (cwV 1 hts gX0_leastOpening_X7_passTime rfl rfl rfl (by decide +kernel) ⟨Nat.le_of_ble_eq_true rfl, Nat.le_of_ble_eq_true rfl⟩) rfl 0 rfl rfl (Nat.le_of_ble_eq_true rfl) ⟨Nat.le_of_ble_eq_true rfl, Nat.le_of_ble_eq_true rfl⟩ dX0_leastOpening_84 (fun r_1 _ hw_2 => ?_)
                  have hw_2 : r_1 = (32 * (s0 (k + 1))) := hw_2
                  have e_r_1 := hw_2
                  show gG p l e (gR 3 0 0 86) s m args below meth c D A 8 Q 0 0 [(xc, .inr (0, [.ref xs, .ref xp, .ref xl, .ref ch_s, .ref ch_t, .ref ch_f, .ref ch_p, .int pm])), (ch_s, .inl (cI, 21, .inl s0)), (ch_t, .inl (cI, 401, .inl t0)), (ch_f, .inl (cI, 401, .inl f0)), (xs, .inr (6, [.ref n, .ref fo, .ref wa, .ref we])), (n, .inl (cI, 36, .inl g_nums))] [(cI, .int)] [(6, .int ((20 * (s0 (k + 1))) + (nI (k + 1)))), (5, .int (op - (nI (k + 1)))), (4, .int (s0 (k + 1))), (0, .ref xc), (1, .int op), (2, .int le_), (3, .int (nI (k + 1)))] 87 [.int r_1, .int (t0 (op - (nI (k + 1))).toNatClampNeg)]
                  refine g_fold (32 * (s0 (k + 1))) e_r_1 ?_
                  refine g_iadd F dX0_leastOpening_87 ?_
                  refine g_aload_n F 3 dX0_leastOpening_88 rfl rfl ?_
                  refine g_get (C := RX0) (T := TX0) (N := 8) (v := .ref ch_t) F i_X0 0 rfl rfl 4 (by decide) w_1 rfl rfl dX0_leastOpening_89 ?_
                  refine g_iload_n F 4 dX0_leastOpening_92 rfl rfl ?_
                  refine g_iald F 2 0 rfl rfl (i32_in (N := 401) (by rw [Int32.le_iff_toInt_le, show (0 : Int32).toInt = 0 from rfl]; omega) (by simp only [Int32.lt_iff_toInt_lt, Int32.le_iff_toInt_le, ← Int32.toInt_inj, Int32.reduceToInt] at c_45; omega)) dX0_leastOpening_93 ?_
                  refine g_icmp_ne F 119 dX0_leastOpening_94 (by decide) (fun c_94 => ?_) (fun c_94 => ?_)
                  · refine g_iconst F 0 dX0_leastOpening_119 (by decide) ?_
                    refine g_istore F [(7, .int 0), (6, .int ((20 * (s0 (k + 1))) + (nI (k + 1)))), (5, .int (op - (nI (k + 1)))), (4, .int (s0 (k + 1))), (0, .ref xc), (1, .int op), (2, .int le_), (3, .int (nI (k + 1)))] dX0_leastOpening_120 (by decide) rfl ?_
                    refine g_iload F 0 dX0_leastOpening_122 rfl ?_
                    refine g_if_eq F 141 dX0_leastOpening_124 (by decide) (fun c_124 => ?_) (fun h9 => absurd (by decide) h9) 
                    refine g_iinc F (j := 7) (nI (k + 1 + 1)) [(3, .int (nI (k + 1 + 1))), (7, .int 0), (6, .int ((20 * (s0 (k + 1))) + (nI (k + 1)))), (5, .int (op - (nI (k + 1)))), (4, .int (s0 (k + 1))), (0, .ref xc), (1, .int op), (2, .int le_)] dX0_leastOpening_141 rfl (nI_1 (k + 1)) (by decide) rfl ?_
                    refine g_goto F 4 dX0_leastOpening_144 (by decide) ?_
                    refine g_locals [(0, .ref xc), (1, .int op), (2, .int le_), (3, .int (nI (k + 1 + 1)))] [5, 6, 7, 0] rfl ?_
                    refine g_world [(xc, .inr (0, [.ref xs, .ref xp, .ref xl, .ref ch_s, .ref ch_t, .ref ch_f, .ref ch_p, .int pm])), (xs, .inr (6, [.ref n, .ref fo, .ref wa, .ref we])), (n, .inl (cI, 36, .inl g_nums)), (ch_s, .inl (cI, 21, .inl s0)), (ch_t, .inl (cI, 401, .inl t0)), (ch_f, .inl (cI, 401, .inl f0))] [0, 4, 5, 1, 2, 3] rfl (by decide) rfl ?_
                    exact ih_4 (k + 1) le_ (by omega) (hk)
                  · refine g_aload_n F 3 dX0_leastOpening_97 rfl rfl ?_
                    refine g_get (C := RX0) (T := TX0) (N := 8) (v := .ref ch_f) F i_X0 0 rfl rfl 5 (by decide) w_3 rfl rfl dX0_leastOpening_98 ?_
                    refine g_iload F 1 dX0_leastOpening_101 rfl ?_
                    refine g_iald F 3 0 rfl rfl (i32_in (N := 401) (by rw [Int32.le_iff_toInt_le, hrest, show (0 : Int32).toInt = 0 from rfl]; omega) (by simp only [Int32.lt_iff_toInt_lt, Int32.le_iff_toInt_le, ← Int32.toInt_inj, Int32.reduceToInt] at c_38; omega)) dX0_leastOpening_103 ?_
                    refine g_iconst F 1 dX0_leastOpening_104 (by decide) ?_
                    refine g_iadd F dX0_leastOpening_105 ?_
                    refine g_aload_n F 3 dX0_leastOpening_106 rfl rfl ?_
                    refine g_get (C := RX0) (T := TX0) (N := 8) (v := .ref ch_f) F i_X0 0 rfl rfl 5 (by decide) w_3 rfl rfl dX0_leastOpening_107 ?_
                    refine g_iload_n F 4 dX0_leastOpening_110 rfl rfl ?_
                    refine g_iald F 3 0 rfl rfl (i32_in (N := 401) (by rw [Int32.le_iff_toInt_le, show (0 : Int32).toInt = 0 from rfl]; omega) (by simp only [Int32.lt_iff_toInt_lt, Int32.le_iff_toInt_le, ← Int32.toInt_inj, Int32.reduceToInt] at c_45; omega)) dX0_leastOpening_111 ?_
                    refine g_icmp_ne F 119 dX0_leastOpening_112 (by decide) (fun c_112 => ?_) (fun c_112 => ?_)
                    · refine g_iconst F 0 dX0_leastOpening_119 (by decide) ?_
                      refine g_istore F [(7, .int 0), (6, .int ((20 * (s0 (k + 1))) + (nI (k + 1)))), (5, .int (op - (nI (k + 1)))), (4, .int (s0 (k + 1))), (0, .ref xc), (1, .int op), (2, .int le_), (3, .int (nI (k + 1)))] dX0_leastOpening_120 (by decide) rfl ?_
                      refine g_iload F 0 dX0_leastOpening_122 rfl ?_
                      refine g_if_eq F 141 dX0_leastOpening_124 (by decide) (fun c_124 => ?_) (fun h9 => absurd (by decide) h9) 
                      refine g_iinc F (j := 7) (nI (k + 1 + 1)) [(3, .int (nI (k + 1 + 1))), (7, .int 0), (6, .int ((20 * (s0 (k + 1))) + (nI (k + 1)))), (5, .int (op - (nI (k + 1)))), (4, .int (s0 (k + 1))), (0, .ref xc), (1, .int op), (2, .int le_)] dX0_leastOpening_141 rfl (nI_1 (k + 1)) (by decide) rfl ?_
                      refine g_goto F 4 dX0_leastOpening_144 (by decide) ?_
                      refine g_locals [(0, .ref xc), (1, .int op), (2, .int le_), (3, .int (nI (k + 1 + 1)))] [5, 6, 7, 0] rfl ?_
                      refine g_world [(xc, .inr (0, [.ref xs, .ref xp, .ref xl, .ref ch_s, .ref ch_t, .ref ch_f, .ref ch_p, .int pm])), (xs, .inr (6, [.ref n, .ref fo, .ref wa, .ref we])), (n, .inl (cI, 36, .inl g_nums)), (ch_s, .inl (cI, 21, .inl s0)), (ch_t, .inl (cI, 401, .inl t0)), (ch_f, .inl (cI, 401, .inl f0))] [0, 4, 5, 1, 2, 3] rfl (by decide) rfl ?_
                      exact ih_4 (k + 1) le_ (by omega) (hk)
                    · refine g_iconst F 1 dX0_leastOpening_115 (by decide) ?_
                      refine g_goto F 120 dX0_leastOpening_116 (by decide) ?_
                      refine g_istore F [(7, .int 1), (6, .int ((20 * (s0 (k + 1))) + (nI (k + 1)))), (5, .int (op - (nI (k + 1)))), (4, .int (s0 (k + 1))), (0, .ref xc), (1, .int op), (2, .int le_), (3, .int (nI (k + 1)))] dX0_leastOpening_120 (by decide) rfl ?_
                      refine g_iload F 0 dX0_leastOpening_122 rfl ?_
                      refine g_if_eq F 141 dX0_leastOpening_124 (by decide) (fun h9 => absurd h9 (by decide)) (fun c_124 => ?_)
                      refine g_iload_n F 6 dX0_leastOpening_127 rfl rfl ?_
                      refine g_iconst F (-1) dX0_leastOpening_128 (by decide) ?_
                      refine g_icmp_eq F 138 dX0_leastOpening_129 (by decide) (fun c_129 => ?_) (fun c_129 => ?_)
                      · refine g_iload F 1 dX0_leastOpening_138 rfl ?_
                        refine g_istore_n F [(2, .int ((20 * (s0 (k + 1))) + (nI (k + 1)))), (7, .int 1), (6, .int ((20 * (s0 (k + 1))) + (nI (k + 1)))), (5, .int (op - (nI (k + 1)))), (4, .int (s0 (k + 1))), (0, .ref xc), (1, .int op), (3, .int (nI (k + 1)))] dX0_leastOpening_140 rfl (by decide) rfl ?_
                        refine g_iinc F (j := 7) (nI (k + 1 + 1)) [(3, .int (nI (k + 1 + 1))), (2, .int ((20 * (s0 (k + 1))) + (nI (k + 1)))), (7, .int 1), (6, .int ((20 * (s0 (k + 1))) + (nI (k + 1)))), (5, .int (op - (nI (k + 1)))), (4, .int (s0 (k + 1))), (0, .ref xc), (1, .int op)] dX0_leastOpening_141 rfl (nI_1 (k + 1)) (by decide) rfl ?_
                        refine g_goto F 4 dX0_leastOpening_144 (by decide) ?_
                        refine g_locals [(0, .ref xc), (1, .int op), (2, .int ((20 * (s0 (k + 1))) + (nI (k + 1)))), (3, .int (nI (k + 1 + 1)))] [6, 7, 1, 0] rfl ?_
                        refine g_world [(xc, .inr (0, [.ref xs, .ref xp, .ref xl, .ref ch_s, .ref ch_t, .ref ch_f, .ref ch_p, .int pm])), (xs, .inr (6, [.ref n, .ref fo, .ref wa, .ref we])), (n, .inl (cI, 36, .inl g_nums)), (ch_s, .inl (cI, 21, .inl s0)), (ch_t, .inl (cI, 401, .inl t0)), (ch_f, .inl (cI, 401, .inl f0))] [0, 4, 5, 1, 2, 3] rfl (by decide) rfl ?_
                        exact ih_4 (k + 1) ((20 * (s0 (k + 1))) + (nI (k + 1))) (by omega) (hk)
                      · refine g_iload F 1 dX0_leastOpening_132 rfl ?_
                        refine g_iload_n F 6 dX0_leastOpening_134 rfl rfl ?_
                        refine g_icmp_ge F 141 dX0_leastOpening_135 (by decide) (fun c_135 => ?_) (fun c_135 => ?_)
                        · refine g_iinc F (j := 7) (nI (k + 1 + 1)) [(3, .int (nI (k + 1 + 1))), (7, .int 1), (6, .int ((20 * (s0 (k + 1))) + (nI (k + 1)))), (5, .int (op - (nI (k + 1)))), (4, .int (s0 (k + 1))), (0, .ref xc), (1, .int op), (2, .int le_)] dX0_leastOpening_141 rfl (nI_1 (k + 1)) (by decide) rfl ?_
                          refine g_goto F 4 dX0_leastOpening_144 (by decide) ?_
                          refine g_locals [(0, .ref xc), (1, .int op), (2, .int le_), (3, .int (nI (k + 1 + 1)))] [5, 6, 7, 0] rfl ?_
                          refine g_world [(xc, .inr (0, [.ref xs, .ref xp, .ref xl, .ref ch_s, .ref ch_t, .ref ch_f, .ref ch_p, .int pm])), (xs, .inr (6, [.ref n, .ref fo, .ref wa, .ref we])), (n, .inl (cI, 36, .inl g_nums)), (ch_s, .inl (cI, 21, .inl s0)), (ch_t, .inl (cI, 401, .inl t0)), (ch_f, .inl (cI, 401, .inl f0))] [0, 4, 5, 1, 2, 3] rfl (by decide) rfl ?_
                          exact ih_4 (k + 1) le_ (by omega) (hk)
                        · refine g_iload F 1 dX0_leastOpening_138 rfl ?_
                          refine g_istore_n F [(2, .int ((20 * (s0 (k + 1))) + (nI (k + 1)))), (7, .int 1), (6, .int ((20 * (s0 (k + 1))) + (nI (k + 1)))), (5, .int (op - (nI (k + 1)))), (4, .int (s0 (k + 1))), (0, .ref xc), (1, .int op), (3, .int (nI (k + 1)))] dX0_leastOpening_140 rfl (by decide) rfl ?_
                          refine g_iinc F (j := 7) (nI (k + 1 + 1)) [(3, .int (nI (k + 1 + 1))), (2, .int ((20 * (s0 (k + 1))) + (nI (k + 1)))), (7, .int 1), (6, .int ((20 * (s0 (k + 1))) + (nI (k + 1)))), (5, .int (op - (nI (k + 1)))), (4, .int (s0 (k + 1))), (0, .ref xc), (1, .int op)] dX0_leastOpening_141 rfl (nI_1 (k + 1)) (by decide) rfl ?_
                          refine g_goto F 4 dX0_leastOpening_144 (by decide) ?_
                          refine g_locals [(0, .ref xc), (1, .int op), (2, .int ((20 * (s0 (k + 1))) + (nI (k + 1)))), (3, .int (nI (k + 1 + 1)))] [6, 7, 1, 0] rfl ?_
                          refine g_world [(xc, .inr (0, [.ref xs, .ref xp, .ref xl, .ref ch_s, .ref ch_t, .ref ch_f, .ref ch_p, .int pm])), (xs, .inr (6, [.ref n, .ref fo, .ref wa, .ref we])), (n, .inl (cI, 36, .inl g_nums)), (ch_s, .inl (cI, 21, .inl s0)), (ch_t, .inl (cI, 401, .inl t0)), (ch_f, .inl (cI, 401, .inl f0))] [0, 4, 5, 1, 2, 3] rfl (by decide) rfl ?_
                          exact ih_4 (k + 1) ((20 * (s0 (k + 1))) + (nI (k + 1))) (by omega) (hk)
                · refine g_goto F 141 dX0_leastOpening_59 (by decide) ?_
                  refine g_iinc F (j := 5) (nI (k + 1 + 1)) [(3, .int (nI (k + 1 + 1))), (5, .int (op - (nI (k + 1)))), (4, .int (s0 (k + 1))), (0, .ref xc), (1, .int op), (2, .int le_)] dX0_leastOpening_141 rfl (nI_1 (k + 1)) (by decide) rfl ?_
                  refine g_goto F 4 dX0_leastOpening_144 (by decide) ?_
                  refine g_locals [(0, .ref xc), (1, .int op), (2, .int le_), (3, .int (nI (k + 1 + 1)))] [3, 4, 5, 0] rfl ?_
                  exact ih_4 (k + 1) le_ (by omega) (hk)
  exact loop_4 (_ + 1) 0 (-1) (Nat.lt_succ_self _) (Nat.zero_le _)

theorem dX0_keepLeastRow_0 : decode cX0_keepLeastRow 0 = .ok (.aload_n 0, 1) := by decide +kernel
theorem dX0_keepLeastRow_1 : decode cX0_keepLeastRow 1 = .ok (.iconst 0, 1) := by decide +kernel
theorem dX0_keepLeastRow_2 : decode cX0_keepLeastRow 2 = .ok (.putfield 111, 3) := by decide +kernel
theorem dX0_keepLeastRow_5 : decode cX0_keepLeastRow 5 = .ok (.iload_n 1, 1) := by decide +kernel
theorem dX0_keepLeastRow_6 : decode cX0_keepLeastRow 6 = .ok (.istore_n 2, 1) := by decide +kernel
theorem dX0_keepLeastRow_7 : decode cX0_keepLeastRow 7 = .ok (.iconst 0, 1) := by decide +kernel
theorem dX0_keepLeastRow_8 : decode cX0_keepLeastRow 8 = .ok (.istore_n 3, 1) := by decide +kernel
theorem dX0_keepLeastRow_9 : decode cX0_keepLeastRow 9 = .ok (.iload_n 3, 1) := by decide +kernel
theorem dX0_keepLeastRow_10 : decode cX0_keepLeastRow 10 = .ok (.sipush 400, 3) := by decide +kernel
theorem dX0_keepLeastRow_13 : decode cX0_keepLeastRow 13 = .ok (.if_icmp .ge 56, 3) := by decide +kernel
theorem dX0_keepLeastRow_16 : decode cX0_keepLeastRow 16 = .ok (.iload_n 2, 1) := by decide +kernel
theorem dX0_keepLeastRow_17 : decode cX0_keepLeastRow 17 = .ok (.ifCond .le 52, 3) := by decide +kernel
theorem dX0_keepLeastRow_20 : decode cX0_keepLeastRow 20 = .ok (.aload_n 0, 1) := by decide +kernel
theorem dX0_keepLeastRow_21 : decode cX0_keepLeastRow 21 = .ok (.iload_n 2, 1) := by decide +kernel
theorem dX0_keepLeastRow_22 : decode cX0_keepLeastRow 22 = .ok (.invokevirtual 114, 3) := by decide +kernel
theorem dX0_keepLeastRow_25 : decode cX0_keepLeastRow 25 = .ok (.istore 4, 2) := by decide +kernel
theorem dX0_keepLeastRow_27 : decode cX0_keepLeastRow 27 = .ok (.iload 4, 2) := by decide +kernel
theorem dX0_keepLeastRow_29 : decode cX0_keepLeastRow 29 = .ok (.iconst (-1), 1) := by decide +kernel
theorem dX0_keepLeastRow_30 : decode cX0_keepLeastRow 30 = .ok (.if_icmp .ne 4, 3) := by decide +kernel
theorem dX0_keepLeastRow_33 : decode cX0_keepLeastRow 33 = .ok (.return_, 1) := by decide +kernel
theorem dX0_keepLeastRow_34 : decode cX0_keepLeastRow 34 = .ok (.aload_n 0, 1) := by decide +kernel
theorem dX0_keepLeastRow_35 : decode cX0_keepLeastRow 35 = .ok (.getfield 21, 3) := by decide +kernel
theorem dX0_keepLeastRow_38 : decode cX0_keepLeastRow 38 = .ok (.aload_n 0, 1) := by decide +kernel
theorem dX0_keepLeastRow_39 : decode cX0_keepLeastRow 39 = .ok (.getfield 111, 3) := by decide +kernel
theorem dX0_keepLeastRow_42 : decode cX0_keepLeastRow 42 = .ok (.iload 4, 2) := by decide +kernel
theorem dX0_keepLeastRow_44 : decode cX0_keepLeastRow 44 = .ok (.iastore, 1) := by decide +kernel
theorem dX0_keepLeastRow_45 : decode cX0_keepLeastRow 45 = .ok (.aload_n 0, 1) := by decide +kernel
theorem dX0_keepLeastRow_46 : decode cX0_keepLeastRow 46 = .ok (.dup, 1) := by decide +kernel
theorem dX0_keepLeastRow_47 : decode cX0_keepLeastRow 47 = .ok (.getfield 111, 3) := by decide +kernel
theorem dX0_keepLeastRow_50 : decode cX0_keepLeastRow 50 = .ok (.iconst 1, 1) := by decide +kernel
theorem dX0_keepLeastRow_51 : decode cX0_keepLeastRow 51 = .ok (.iadd, 1) := by decide +kernel
theorem dX0_keepLeastRow_52 : decode cX0_keepLeastRow 52 = .ok (.putfield 111, 3) := by decide +kernel
theorem dX0_keepLeastRow_55 : decode cX0_keepLeastRow 55 = .ok (.iload_n 2, 1) := by decide +kernel
theorem dX0_keepLeastRow_56 : decode cX0_keepLeastRow 56 = .ok (.iload 4, 2) := by decide +kernel
theorem dX0_keepLeastRow_58 : decode cX0_keepLeastRow 58 = .ok (.invokestatic 117, 3) := by decide +kernel
theorem dX0_keepLeastRow_61 : decode cX0_keepLeastRow 61 = .ok (.isub, 1) := by decide +kernel
theorem dX0_keepLeastRow_62 : decode cX0_keepLeastRow 62 = .ok (.istore_n 2, 1) := by decide +kernel
theorem dX0_keepLeastRow_63 : decode cX0_keepLeastRow 63 = .ok (.iinc 3 1, 3) := by decide +kernel
theorem dX0_keepLeastRow_66 : decode cX0_keepLeastRow 66 = .ok (.goto (-57), 3) := by decide +kernel
theorem dX0_keepLeastRow_69 : decode cX0_keepLeastRow 69 = .ok (.return_, 1) := by decide +kernel
set_option maxRecDepth 20000 in
theorem ggX0_keepLeastRow_X0_feedOf : GoodIn wsX0_keepLeastRow wsX0_feedOf := goodIn_r _ [28] rfl (by decide +kernel)
set_option maxRecDepth 20000 in
theorem gX0_keepLeastRow_X0_feedOf : GoodIn wsX0_keepLeastRow (va_wsS RX0 117 yX0_feedOf wsX0_feedOf) := goodIn_app (goodIn_of _ (by decide +kernel)) ggX0_keepLeastRow_X0_feedOf
set_option maxRecDepth 20000 in
theorem ggX0_keepLeastRow_X0_leastOpening : GoodIn wsX0_keepLeastRow wsX0_leastOpening := goodIn_r _ [7, 8, 9, 10, 11, 12, 13, 14, 15, 16, 17, 18, 19, 20, 21, 22, 23, 24, 25, 29, 30, 31, 32, 33, 34, 35, 36, 37, 38, 39, 40] rfl (by decide +kernel)
set_option maxRecDepth 20000 in
theorem gX0_keepLeastRow_X0_leastOpening : GoodIn wsX0_keepLeastRow (wsV RX0 114 RX0 yX0_leastOpening wsX0_leastOpening) := goodIn_app (goodIn_of _ (by decide +kernel)) ggX0_keepLeastRow_X0_leastOpening
set_option maxHeartbeats 4000000 in
set_option maxRecDepth 100000 in
theorem K_X0_keepLeastRow (l : Launch) (D : va_G) (xc : Nat) (xs : Nat) (xp : Nat) (xl : Nat) (ch_s : Nat) (ch_t : Nat) (ch_f : Nat) (ch_p : Nat) (n : Nat) (fo : Nat) (wa : Nat) (we : Nat) (cI : ClassId) (s0 : Nat → Int32) (t0 : Nat → Int32) (f0 : Nat → Int32) (p0 : Nat → Int32) (op : Int32) (pm : Int32) (sz : Nat) : Kv l yX0_keepLeastRow wsX0_keepLeastRow 4 113 0 0 D [.ref xc, .int op] [(xc, .inr (0, [.ref xs, .ref xp, .ref xl, .ref ch_s, .ref ch_t, .ref ch_f, .ref ch_p, .int pm])), (xs, .inr (6, [.ref n, .ref fo, .ref wa, .ref we])), (n, .inl (cI, 36, .inl g_nums)), (ch_s, .inl (cI, 21, .inl s0)), (ch_t, .inl (cI, 401, .inl t0)), (ch_f, .inl (cI, 401, .inl f0)), (ch_p, .inl (cI, 400, .inl p0))] [(cI, .int)] sz (fun (u : (Nat → Int32) × Int32) => True) (fun (u : (Nat → Int32) × Int32) => [(xc, .inr (0, [.ref xs, .ref xp, .ref xl, .ref ch_s, .ref ch_t, .ref ch_f, .ref ch_p, .int u.2])), (xs, .inr (6, [.ref n, .ref fo, .ref wa, .ref we])), (n, .inl (cI, 36, .inl g_nums)), (ch_s, .inl (cI, 21, .inl s0)), (ch_t, .inl (cI, 401, .inl t0)), (ch_f, .inl (cI, 401, .inl f0)), (ch_p, .inl (cI, 400, .inl u.1))]) (fun (_ : (Nat → Int32) × Int32) => [(cI, .int)]) := by
  unfold Kv
  refine g_ofW (cc := cX0_keepLeastRow) (lv := [(0, .ref xc), (1, .int op)]) (by decide) rfl (Nat.le_of_ble_eq_true rfl) rfl ?_
  intro p e s m args below meth c A Q hA hQ F hr hnm
  have hts := F.2.2.2.2.1
  have w_0 : (Cond.fieldLink RX0 111 "QuietCut$Chooser" "planMany" "I").before args s = true := hts _ (List.mem_of_getElem? (i := 1) rfl)
  have i_X0 : ∀ w ∈ u_ws RX0 TX0 8, w ∈ wsX0_keepLeastRow := fun _ h => List.mem_cons_of_mem _ (List.mem_append_left _ (List.mem_append_right _ h))
  have w_1 : (Cond.fieldLink RX0 21 "QuietCut$Chooser" "planRow" "[I").before args s = true := hts _ (List.mem_of_getElem? (i := 2) rfl)
  refine g_aload_n F 0 dX0_keepLeastRow_0 rfl rfl ?_
  refine g_iconst F 0 dX0_keepLeastRow_1 (by decide) ?_
  refine g_put (C := RX0) (T := TX0) (N := 8) (ty := .int) (v := .int 0) F i_X0 0 rfl rfl 7 (by decide) w_0 rfl tyX0 tyX0_ok nmX0 rfl (by decide +kernel) rfl rfl (Nat.le_of_ble_eq_true rfl) [(xc, .inr (0, [.ref xs, .ref xp, .ref xl, .ref ch_s, .ref ch_t, .ref ch_f, .ref ch_p, .int 0])), (xs, .inr (6, [.ref n, .ref fo, .ref wa, .ref we])), (n, .inl (cI, 36, .inl g_nums)), (ch_s, .inl (cI, 21, .inl s0)), (ch_t, .inl (cI, 401, .inl t0)), (ch_f, .inl (cI, 401, .inl f0)), (ch_p, .inl (cI, 400, .inl p0))] rfl dX0_keepLeastRow_2 ?_
  refine g_iload_n F 1 dX0_keepLeastRow_5 rfl rfl ?_
  refine g_istore_n F [(2, .int op), (0, .ref xc), (1, .int op)] dX0_keepLeastRow_6 rfl (by decide) rfl ?_
  refine g_iconst F 0 dX0_keepLeastRow_7 (by decide) ?_
  refine g_istore_n F [(3, .int 0), (2, .int op), (0, .ref xc), (1, .int op)] dX0_keepLeastRow_8 rfl (by decide) rfl ?_
  refine g_locals [(0, .ref xc), (1, .int op), (2, .int op), (3, .int 0)] [2, 3, 1, 0] rfl ?_
  have loop_9 : ∀ (fuel : Nat) (k : Nat) (oo : Int32) (hP : Nat → Int32), 400 - k < fuel → (k ≤ 400) → gG p l e (gR 4 0 0 113) s m args below meth c D A 5 Q 0 0 [(xc, .inr (0, [.ref xs, .ref xp, .ref xl, .ref ch_s, .ref ch_t, .ref ch_f, .ref ch_p, .int (nI k)])), (xs, .inr (6, [.ref n, .ref fo, .ref wa, .ref we])), (n, .inl (cI, 36, .inl g_nums)), (ch_s, .inl (cI, 21, .inl s0)), (ch_t, .inl (cI, 401, .inl t0)), (ch_f, .inl (cI, 401, .inl f0)), (ch_p, .inl (cI, 400, .inl hP))] [(cI, .int)] [(0, .ref xc), (1, .int op), (2, .int oo), (3, .int (nI k))] 9 [] := by
    intro fuel_9
    induction fuel_9 with
    | zero => intro k oo hP hm; exact absurd hm (Nat.not_lt_zero _)
    | succ fuel_9 ih_9 =>
      intro k oo hP hm9 hk0
      refine g_iload_n F 3 dX0_keepLeastRow_9 rfl rfl ?_
      refine g_sipush F 400 dX0_keepLeastRow_10 (by decide) ?_
      refine g_icmp_ge F 69 dX0_keepLeastRow_13 (by decide) (fun c_13 => ?_) (fun c_13 => ?_)
      · exact g_vret F hA hQ hr (hP, (nI k)) (trivial) [0, 1, 2, 3, 4, 5, 6] [0] rfl (by decide) rfl rfl dX0_keepLeastRow_69
      · have hk : k + 1 ≤ 400 := by rcases Nat.lt_or_ge k 400 with h | h; omega; exact absurd (nI_le (a := 400) (b := k) (by omega) (by omega)) c_13
        refine g_iload_n F 2 dX0_keepLeastRow_16 rfl rfl ?_
        refine g_if_le F 69 dX0_keepLeastRow_17 (by decide) (fun c_17 => ?_) (fun c_17 => ?_)
        · exact g_vret F hA hQ hr (hP, (nI k)) (trivial) [0, 1, 2, 3, 4, 5, 6] [0] rfl (by decide) rfl rfl dX0_keepLeastRow_69
        · refine g_aload_n F 0 dX0_keepLeastRow_20 rfl rfl ?_
          refine g_iload_n F 2 dX0_keepLeastRow_21 rfl rfl ?_
          refine g_callVi (k := 0) (n := 0) (b := xc) (As := [.int oo]) (st := []) (wc := [(xc, .inr (0, [.ref xs, .ref xp, .ref xl, .ref ch_s, .ref ch_t, .ref ch_f, .ref ch_p, .int (nI k)])), (xs, .inr (6, [.ref n, .ref fo, .ref wa, .ref we])), (n, .inl (cI, 36, .inl g_nums)), (ch_s, .inl (cI, 21, .inl s0)), (ch_t, .inl (cI, 401, .inl t0)), (ch_f, .inl (cI, 401, .inl f0))]) (wr := [(ch_p, .inl (cI, 400, .inl hP))]) F [0, 1, 2, 3, 4, 5] [6] [0] rfl rfl (by decide) rfl (by decide) (by decide) rfl (fun sz => K_X0_leastOpening l D xc xs xp xl ch_s ch_t ch_f ch_p n fo wa we cI s0 t0 f0 oo (nI k)  sz) (cwV 1 hts gX0_keepLeastRow_X0_leastOpening rfl rfl rfl (by decide +kernel) ⟨Nat.le_of_ble_eq_true rfl, Nat.le_of_ble_eq_true rfl⟩) rfl 0 rfl rfl (Nat.le_of_ble_eq_true rfl) ⟨Nat.le_of_ble_eq_true rfl, Nat.le_of_ble_eq_true rfl⟩ dX0_keepLeastRow_22 (fun r_1 _ hw_2 => ?_)
          show gG p l e (gR 4 0 0 113) s m args below meth c D A 5 Q 0 0 [(ch_p, .inl (cI, 400, .inl hP)), (xc, .inr (0, [.ref xs, .ref xp, .ref xl, .ref ch_s, .ref ch_t, .ref ch_f, .ref ch_p, .int (nI k)])), (xs, .inr (6, [.ref n, .ref fo, .ref wa, .ref we])), (n, .inl (cI, 36, .inl g_nums)), (ch_s, .inl (cI, 21, .inl s0)), (ch_t, .inl (cI, 401, .inl t0)), (ch_f, .inl (cI, 401, .inl f0))] [(cI, .int)] [(0, .ref xc), (1, .int op), (2, .int oo), (3, .int (nI k))] 25 [.int r_1]
          refine g_istore F [(4, .int r_1), (0, .ref xc), (1, .int op), (2, .int oo), (3, .int (nI k))] dX0_keepLeastRow_25 (by decide) rfl ?_
          refine g_iload F 0 dX0_keepLeastRow_27 rfl ?_
          refine g_iconst F (-1) dX0_keepLeastRow_29 (by decide) ?_
          refine g_icmp_ne F 34 dX0_keepLeastRow_30 (by decide) (fun c_30 => ?_) (fun c_30 => ?_)
          · refine g_aload_n F 1 dX0_keepLeastRow_34 rfl rfl ?_
            refine g_get (C := RX0) (T := TX0) (N := 8) (v := .ref ch_p) F i_X0 1 rfl rfl 6 (by decide) w_1 rfl rfl dX0_keepLeastRow_35 ?_
            refine g_aload_n F 1 dX0_keepLeastRow_38 rfl rfl ?_
            refine g_get (C := RX0) (T := TX0) (N := 8) (v := .int (nI k)) F i_X0 1 rfl rfl 7 (by decide) w_0 rfl rfl dX0_keepLeastRow_39 ?_
            refine g_iload F 0 dX0_keepLeastRow_42 rfl ?_
            refine g_iast F 0 0 rfl rfl (vp_in_nI (by omega) (by decide)) [(ch_p, .inl (cI, 400, .inl (upd hP k r_1))), (xc, .inr (0, [.ref xs, .ref xp, .ref xl, .ref ch_s, .ref ch_t, .ref ch_f, .ref ch_p, .int (nI k)])), (xs, .inr (6, [.ref n, .ref fo, .ref wa, .ref we])), (n, .inl (cI, 36, .inl g_nums)), (ch_s, .inl (cI, 21, .inl s0)), (ch_t, .inl (cI, 401, .inl t0)), (ch_f, .inl (cI, 401, .inl f0))] (by rw [nI_clamp (by omega)]; rfl) dX0_keepLeastRow_44 ?_
            refine g_aload_n F 1 dX0_keepLeastRow_45 rfl rfl ?_
            refine g_dup F dX0_keepLeastRow_46 rfl ?_
            refine g_get (C := RX0) (T := TX0) (N := 8) (v := .int (nI k)) F i_X0 1 rfl rfl 7 (by decide) w_0 rfl rfl dX0_keepLeastRow_47 ?_
            refine g_iconst F 1 dX0_keepLeastRow_50 (by decide) ?_
            refine g_iadd F dX0_keepLeastRow_51 ?_
            refine g_fold (nI (k + 1)) (nI_1 k) ?_
            refine g_put (C := RX0) (T := TX0) (N := 8) (ty := .int) (v := .int (nI (k + 1))) F i_X0 1 rfl rfl 7 (by decide) w_0 rfl tyX0 tyX0_ok nmX0 rfl (by decide +kernel) rfl rfl (Nat.le_of_ble_eq_true rfl) [(ch_p, .inl (cI, 400, .inl (upd hP k r_1))), (xc, .inr (0, [.ref xs, .ref xp, .ref xl, .ref ch_s, .ref ch_t, .ref ch_f, .ref ch_p, .int (nI (k + 1))])), (xs, .inr (6, [.ref n, .ref fo, .ref wa, .ref we])), (n, .inl (cI, 36, .inl g_nums)), (ch_s, .inl (cI, 21, .inl s0)), (ch_t, .inl (cI, 401, .inl t0)), (ch_f, .inl (cI, 401, .inl f0))] rfl dX0_keepLeastRow_52 ?_
            refine g_iload_n F 3 dX0_keepLeastRow_55 rfl rfl ?_
            refine g_iload F 0 dX0_keepLeastRow_56 rfl ?_
            refine g_callSi (k := 0) (n := 0) (As := [.int r_1]) (st := [.int oo]) (wc := []) (wr := [(ch_p, .inl (cI, 400, .inl (upd hP k r_1))), (xc, .inr (0, [.ref xs, .ref xp, .ref xl, .ref ch_s, .ref ch_t, .ref ch_f, .ref ch_p, .int (nI (k + 1))])), (xs, .inr (6, [.ref n, .ref fo, .ref wa, .ref we])), (n, .inl (cI, 36, .inl g_nums)), (ch_s, .inl (cI, 21, .inl s0)), (ch_t, .inl (cI, 401, .inl t0)), (ch_f, .inl (cI, 401, .inl f0))]) F [] [0, 1, 2, 3, 4, 5, 6] [] rfl rfl (by decide) rfl (by decide) (by decide) rfl (fun sz => K_X0_feedOf l D r_1  sz) (va_cwS 1 hts gX0_keepLeastRow_X0_feedOf rfl rfl rfl (by decide +kernel) ⟨Nat.le_of_ble_eq_true rfl, Nat.le_of_ble_eq_true rfl⟩) rfl (Nat.le_of_ble_eq_true rfl) ⟨Nat.le_of_ble_eq_true rfl, Nat.le_of_ble_eq_true rfl⟩ dX0_keepLeastRow_58 (fun r_6 _ hw_7 => ?_)
            show gG p l e (gR 4 0 0 113) s m args below meth c D A 5 Q 0 0 [(ch_p, .inl (cI, 400, .inl (upd hP k r_1))), (xc, .inr (0, [.ref xs, .ref xp, .ref xl, .ref ch_s, .ref ch_t, .ref ch_f, .ref ch_p, .int (nI (k + 1))])), (xs, .inr (6, [.ref n, .ref fo, .ref wa, .ref we])), (n, .inl (cI, 36, .inl g_nums)), (ch_s, .inl (cI, 21, .inl s0)), (ch_t, .inl (cI, 401, .inl t0)), (ch_f, .inl (cI, 401, .inl f0))] [(cI, .int)] [(4, .int r_1), (0, .ref xc), (1, .int op), (2, .int oo), (3, .int (nI k))] 61 [.int r_6, .int oo]
            refine g_isub F dX0_keepLeastRow_61 ?_
            refine g_istore_n F [(2, .int (oo - r_6)), (4, .int r_1), (0, .ref xc), (1, .int op), (3, .int (nI k))] dX0_keepLeastRow_62 rfl (by decide) rfl ?_
            refine g_iinc F (j := 4) (nI (k + 1)) [(3, .int (nI (k + 1))), (2, .int (oo - r_6)), (4, .int r_1), (0, .ref xc), (1, .int op)] dX0_keepLeastRow_63 rfl (nI_1 k) (by decide) rfl ?_
            refine g_goto F 9 dX0_keepLeastRow_66 (by decide) ?_
            refine g_locals [(0, .ref xc), (1, .int op), (2, .int (oo - r_6)), (3, .int (nI (k + 1)))] [3, 4, 1, 0] rfl ?_
            refine g_world [(xc, .inr (0, [.ref xs, .ref xp, .ref xl, .ref ch_s, .ref ch_t, .ref ch_f, .ref ch_p, .int (nI (k + 1))])), (xs, .inr (6, [.ref n, .ref fo, .ref wa, .ref we])), (n, .inl (cI, 36, .inl g_nums)), (ch_s, .inl (cI, 21, .inl s0)), (ch_t, .inl (cI, 401, .inl t0)), (ch_f, .inl (cI, 401, .inl f0)), (ch_p, .inl (cI, 400, .inl (upd hP k r_1)))] [1, 2, 3, 4, 5, 6, 0] rfl (by decide) rfl ?_
            exact ih_9 (k + 1) (oo - r_6) (upd hP k r_1) (by omega) (hk)
          · exact g_vret F hA hQ hr (hP, (nI k)) (trivial) [1, 2, 3, 4, 5, 6, 0] [0] rfl (by decide) rfl rfl dX0_keepLeastRow_33
  exact loop_9 (_ + 1) 0 op p0 (Nat.lt_succ_self _) (Nat.zero_le _)

def sp_plan (b : Int32) : Int32 := if b - b / 4 * 4 = 0 then sp_lt (min (b / 4).toNatClampNeg 20) (b / 4).toNatClampNeg else -1
theorem sp_plan_n {b : Int32} (h : ¬ b - b / 4 * 4 = 0) : -1 = sp_plan b := (if_neg h).symm
theorem sp_plan_y {b : Int32} {U : Nat} (h : b - b / 4 * 4 = 0) (e : b / 4 = nI U) (hU : U ≤ 100) : sp_lt (min U 20) U = sp_plan b := by
  unfold sp_plan
  rw [if_pos h, e, nI_clamp (by omega)]
theorem pl_u {b : Int32} (h : 1 ≤ b ∧ b ≤ 400) (h3 : b - b / 4 * 4 = 0) : ∃ U : Nat, 1 ≤ U ∧ U ≤ 100 ∧ b / 4 = nI U := by
  have hb := gi_nat (x := b) (K := 400) (by have := h.1; simp only [Int32.lt_iff_toInt_lt, Int32.le_iff_toInt_le, ← Int32.toInt_inj, Int32.reduceToInt] at this; omega) (by have := h.2; simp only [Int32.lt_iff_toInt_lt, Int32.le_iff_toInt_le, ← Int32.toInt_inj, Int32.reduceToInt] at this; omega) (by decide)
  obtain ⟨e, hle⟩ := hb
  generalize b.toNatClampNeg = q at e hle
  subst e
  rw [show (4 : Int32) = nI 4 from rfl] at h3 ⊢
  rw [pk_rem (by omega) (by decide) (by decide)] at h3
  have h1 := h.1
  rw [show (1 : Int32) = nI 1 from rfl, nI_leI (by decide) (by omega)] at h1
  rw [show (0 : Int32) = nI 0 from rfl, nI_eq (by omega) (by decide)] at h3
  exact ⟨q / 4, by omega, by omega, pk_div (by omega) (by decide) (by decide)⟩
theorem pl_min {U : Nat} (h : U ≤ 100) : (if 20 < nI U then 20 else nI U) = nI (min U 20) := by
  by_cases q : 20 < U
  · rw [if_pos (show (20 : Int32) < nI U from nI_lt (a := 20) q (by omega)), Nat.min_eq_right (by omega)]; rfl
  · rw [if_neg (show ¬ (20 : Int32) < nI U from nI_nlt (a := 20) (by omega) (by decide)), Nat.min_eq_left (by omega)]
theorem sp_lt_m {U : Nat} (h1 : 1 ≤ U) (h : U ≤ 100) : ¬ sp_lt (min U 20) U = -1 := by
  rw [show min U 20 = (min U 20 - 1) + 1 by omega]
  exact sp_lt_n1 (by omega)

theorem dX0_planTime_0 : decode cX0_planTime 0 = .ok (.aload_n 0, 1) := by decide +kernel
theorem dX0_planTime_1 : decode cX0_planTime 1 = .ok (.getfield 24, 3) := by decide +kernel
theorem dX0_planTime_4 : decode cX0_planTime 4 = .ok (.getfield 36, 3) := by decide +kernel
theorem dX0_planTime_7 : decode cX0_planTime 7 = .ok (.bipush 9, 2) := by decide +kernel
theorem dX0_planTime_9 : decode cX0_planTime 9 = .ok (.iaload, 1) := by decide +kernel
theorem dX0_planTime_10 : decode cX0_planTime 10 = .ok (.istore_n 3, 1) := by decide +kernel
theorem dX0_planTime_11 : decode cX0_planTime 11 = .ok (.iload_n 3, 1) := by decide +kernel
theorem dX0_planTime_12 : decode cX0_planTime 12 = .ok (.iconst 1, 1) := by decide +kernel
theorem dX0_planTime_13 : decode cX0_planTime 13 = .ok (.if_icmp .lt 16, 3) := by decide +kernel
theorem dX0_planTime_16 : decode cX0_planTime 16 = .ok (.iload_n 2, 1) := by decide +kernel
theorem dX0_planTime_17 : decode cX0_planTime 17 = .ok (.iload_n 3, 1) := by decide +kernel
theorem dX0_planTime_18 : decode cX0_planTime 18 = .ok (.irem, 1) := by decide +kernel
theorem dX0_planTime_19 : decode cX0_planTime 19 = .ok (.ifCond .ne 10, 3) := by decide +kernel
theorem dX0_planTime_22 : decode cX0_planTime 22 = .ok (.iload_n 2, 1) := by decide +kernel
theorem dX0_planTime_23 : decode cX0_planTime 23 = .ok (.sipush 400, 3) := by decide +kernel
theorem dX0_planTime_26 : decode cX0_planTime 26 = .ok (.if_icmp .le 5, 3) := by decide +kernel
theorem dX0_planTime_29 : decode cX0_planTime 29 = .ok (.iconst (-1), 1) := by decide +kernel
theorem dX0_planTime_30 : decode cX0_planTime 30 = .ok (.ireturn, 1) := by decide +kernel
theorem dX0_planTime_31 : decode cX0_planTime 31 = .ok (.iload_n 2, 1) := by decide +kernel
theorem dX0_planTime_32 : decode cX0_planTime 32 = .ok (.iload_n 3, 1) := by decide +kernel
theorem dX0_planTime_33 : decode cX0_planTime 33 = .ok (.idiv, 1) := by decide +kernel
theorem dX0_planTime_34 : decode cX0_planTime 34 = .ok (.istore 4, 2) := by decide +kernel
theorem dX0_planTime_36 : decode cX0_planTime 36 = .ok (.aload_n 0, 1) := by decide +kernel
theorem dX0_planTime_37 : decode cX0_planTime 37 = .ok (.iload_n 1, 1) := by decide +kernel
theorem dX0_planTime_38 : decode cX0_planTime 38 = .ok (.iload 4, 2) := by decide +kernel
theorem dX0_planTime_40 : decode cX0_planTime 40 = .ok (.bipush 20, 2) := by decide +kernel
theorem dX0_planTime_42 : decode cX0_planTime 42 = .ok (.invokestatic 82, 3) := by decide +kernel
theorem dX0_planTime_45 : decode cX0_planTime 45 = .ok (.invokevirtual 88, 3) := by decide +kernel
theorem dX0_planTime_48 : decode cX0_planTime 48 = .ok (.aload_n 0, 1) := by decide +kernel
theorem dX0_planTime_49 : decode cX0_planTime 49 = .ok (.iload 4, 2) := by decide +kernel
theorem dX0_planTime_51 : decode cX0_planTime 51 = .ok (.invokevirtual 92, 3) := by decide +kernel
theorem dX0_planTime_54 : decode cX0_planTime 54 = .ok (.aload_n 0, 1) := by decide +kernel
theorem dX0_planTime_55 : decode cX0_planTime 55 = .ok (.getfield 15, 3) := by decide +kernel
theorem dX0_planTime_58 : decode cX0_planTime 58 = .ok (.iload 4, 2) := by decide +kernel
theorem dX0_planTime_60 : decode cX0_planTime 60 = .ok (.iaload, 1) := by decide +kernel
theorem dX0_planTime_61 : decode cX0_planTime 61 = .ok (.iconst (-1), 1) := by decide +kernel
theorem dX0_planTime_62 : decode cX0_planTime 62 = .ok (.if_icmp .ne 5, 3) := by decide +kernel
theorem dX0_planTime_65 : decode cX0_planTime 65 = .ok (.iconst (-1), 1) := by decide +kernel
theorem dX0_planTime_66 : decode cX0_planTime 66 = .ok (.ireturn, 1) := by decide +kernel
theorem dX0_planTime_67 : decode cX0_planTime 67 = .ok (.aload_n 0, 1) := by decide +kernel
theorem dX0_planTime_68 : decode cX0_planTime 68 = .ok (.iload 4, 2) := by decide +kernel
theorem dX0_planTime_70 : decode cX0_planTime 70 = .ok (.invokevirtual 95, 3) := by decide +kernel
theorem dX0_planTime_73 : decode cX0_planTime 73 = .ok (.aload_n 0, 1) := by decide +kernel
theorem dX0_planTime_74 : decode cX0_planTime 74 = .ok (.getfield 15, 3) := by decide +kernel
theorem dX0_planTime_77 : decode cX0_planTime 77 = .ok (.iload 4, 2) := by decide +kernel
theorem dX0_planTime_79 : decode cX0_planTime 79 = .ok (.iaload, 1) := by decide +kernel
theorem dX0_planTime_80 : decode cX0_planTime 80 = .ok (.ireturn, 1) := by decide +kernel
set_option maxRecDepth 20000 in
theorem ggX0_planTime_X0_findLeastTimes : GoodIn wsX0_planTime wsX0_findLeastTimes := goodIn_r _ [135, 7, 136, 13, 1, 137, 138, 139, 39, 140, 41, 141, 121, 122, 123, 142, 129, 130, 131, 143, 144, 145, 11, 146, 147, 64, 5, 65, 161, 162, 163, 164, 165, 166, 167, 168, 169, 170, 171, 172] rfl (by decide +kernel)
set_option maxRecDepth 20000 in
theorem gX0_planTime_X0_findLeastTimes : GoodIn wsX0_planTime (wsV RX0 92 RX0 yX0_findLeastTimes wsX0_findLeastTimes) := goodIn_app (goodIn_of _ (by decide +kernel)) ggX0_planTime_X0_findLeastTimes
set_option maxRecDepth 20000 in
theorem ggX0_planTime_X0_findSpeeds : GoodIn wsX0_planTime wsX0_findSpeeds := goodIn_r _ [12, 13, 14, 15, 16, 17, 18, 19, 20, 11, 21, 22, 1, 2, 23, 24, 25, 26, 27, 28, 29, 30, 31, 32, 33, 34, 35, 36, 37, 38, 39, 40, 41, 42, 43, 44, 45, 46, 47, 48, 49, 50, 51, 52, 53, 54, 55, 56, 57, 58, 59, 60, 61, 62, 63, 64, 5, 65, 66, 67, 68, 69, 70, 4, 6, 71, 72, 73, 74, 75, 76, 77, 78, 79, 80, 81, 82, 83, 84, 85, 86, 87, 88, 89, 90, 91, 92, 93, 94, 95, 96, 97, 98, 99, 100, 101, 102, 103, 104, 105, 106, 107, 108, 109, 110, 111, 112, 113, 114, 115, 116, 117, 118, 119, 120, 121, 122, 123, 124, 125, 126, 127, 128, 129, 130, 131, 161, 162, 163, 164, 165, 166, 167, 168, 169, 170, 171, 172, 173, 174, 175, 176, 177, 178, 179, 180, 181, 182, 183, 184, 185, 186, 187, 188, 189, 190, 191, 192, 193, 194, 195, 196, 197, 198, 199, 200, 201, 202, 203, 204, 205, 206] rfl (by decide +kernel)
set_option maxRecDepth 20000 in
theorem gX0_planTime_X0_findSpeeds : GoodIn wsX0_planTime (wsV RX0 88 RX0 yX0_findSpeeds wsX0_findSpeeds) := goodIn_app (goodIn_of _ (by decide +kernel)) ggX0_planTime_X0_findSpeeds
set_option maxRecDepth 20000 in
theorem ggX0_planTime_X0_keepLeastRow : GoodIn wsX0_planTime wsX0_keepLeastRow := goodIn_r _ [151, 152, 153, 154, 155, 156, 11, 157, 13, 7, 1, 136, 137, 138, 139, 39, 140, 41, 141, 121, 122, 123, 142, 129, 130, 131, 158, 159, 160, 161, 162, 163, 164, 165, 166, 167, 168, 169, 170, 171, 172] rfl (by decide +kernel)
set_option maxRecDepth 20000 in
theorem gX0_planTime_X0_keepLeastRow : GoodIn wsX0_planTime (wsV RX0 95 RX0 yX0_keepLeastRow wsX0_keepLeastRow) := goodIn_app (goodIn_of _ (by decide +kernel)) ggX0_planTime_X0_keepLeastRow
set_option maxHeartbeats 4000000 in
set_option maxRecDepth 100000 in
theorem K_X0_planTime (l : Launch) (D : va_G) (xc : Nat) (xs : Nat) (xp : Nat) (xl : Nat) (ch_s : Nat) (ch_t : Nat) (ch_f : Nat) (ch_p : Nat) (ph : Nat) (pl : Nat) (cI : ClassId) (l_ring : Int32) (l_speed : Int32) (l_feed : Int32) (l_turns : Int32) (l_teethMany : Int32) (l_wear : Int32) (l_x : Int32) (l_v : Int32) (l_wave : Int32) (l_time : Int32) (l_out : Int32) (l_farthest : Int32) (l_begun : Int32) (k_t : Nat → Int32) (k_h : Nat → Int32) (k_u : Nat → Int32) (k_o : Nat → Int32) (k_x : Nat → Int32) (k_1 : Nat → Int32) (k_2 : Nat → Int32) (k_3 : Nat → Int32) (a : Int32) (b : Int32) (la_t : Nat) (la_h : Nat) (la_u : Nat) (la_o : Nat) (la_x : Nat) (n : Nat) (fo : Nat) (wa : Nat) (we : Nat) (cf : Nat) (sf : Nat) (wf : Nat) (ch : Nat) (sh : Nat) (wh : Nat) (cg : Nat) (sg : Nat) (wg : Nat) (ha : 0 ≤ a ∧ a < 3) (hb : 1 ≤ b ∧ b ≤ 400) (sz : Nat) : Ki l yX0_planTime wsX0_planTime 6 175 0 0 D [.ref xc, .int a, .int b] [(xc, .inr (0, [.ref xs, .ref xp, .ref xl, .ref ch_s, .ref ch_t, .ref ch_f, .ref ch_p, .int 0])), (xp, .inr (5, [.ref xs, .ref ph, .int 0, .int 0, .ref pl])), (ph, .inl (cI, 96, .inl (fun _ => 1000))), (ch_s, .inl (cI, 21, .inl (fun _ => 0))), (ch_t, .inl (cI, 401, .inl (fun _ => 0))), (ch_f, .inl (cI, 401, .inl (fun _ => 0))), (ch_p, .inl (cI, 400, .inl (fun _ => 0))), (xl, .inr (4, [.ref xs, .int l_ring, .int l_speed, .int l_feed, .int l_turns, .ref la_t, .int 0, .int l_teethMany, .ref la_h, .ref la_u, .ref la_o, .ref la_x, .int l_wear, .int l_x, .int l_v, .int l_wave, .int l_time, .int l_out, .int l_farthest, .int l_begun])), (la_t, .inl (cI, 4, .inl k_t)), (la_h, .inl (cI, 16, .inl k_h)), (la_u, .inl (cI, 16, .inl k_u)), (la_o, .inl (cI, 16, .inl k_o)), (la_x, .inl (cI, 16, .inl k_x)), (xs, .inr (6, [.ref n, .ref fo, .ref wa, .ref we])), (n, .inl (cI, 36, .inl g_nums)), (fo, .inr (2, [.ref cf, .int 1, .ref sf, .ref wf, .int 0, .int 0, .int 0, .int 0, .int 0])), (cf, .inl (cI, 80, .inl (upd (fun _ => 0) 0 (-1)))), (sf, .inl (cI, 12, .inl k_1)), (wa, .inr (2, [.ref cg, .int 1, .ref sg, .ref wg, .int 0, .int 0, .int 0, .int 0, .int 0])), (cg, .inl (cI, 80, .inl (upd (fun _ => 0) 0 0))), (sg, .inl (cI, 12, .inl k_2)), (we, .inr (2, [.ref ch, .int 1, .ref sh, .ref wh, .int 0, .int 0, .int 0, .int 0, .int 0])), (ch, .inl (cI, 80, .inl (upd (fun _ => 0) 0 0))), (sh, .inl (cI, 12, .inl k_3))] [(cI, .int)] sz (fun (r : Int32) (_ : Unit) => r = (sp_plan b)) (fun (_ : Unit) => []) (fun (_ : Unit) => [(cI, .int)]) := by
  unfold Ki
  refine g_ofW (cc := cX0_planTime) (lv := [(0, .ref xc), (1, .int a), (2, .int b)]) (by decide) rfl (Nat.le_of_ble_eq_true rfl) rfl ?_
  intro p e s m args below meth c A Q hA hQ F hr hnm
  have hts := F.2.2.2.2.1
  have w_0 : (Cond.fieldLink RX0 24 "QuietCut$Chooser" "shop" "LQuietCut$Shop;").before args s = true := hts _ (List.mem_of_getElem? (i := 1) rfl)
  have i_X0 : ∀ w ∈ u_ws RX0 TX0 8, w ∈ wsX0_planTime := fun _ h => List.mem_cons_of_mem _ (List.mem_append_left _ (List.mem_append_left _ (List.mem_append_left _ (List.mem_append_left _ (List.mem_append_right _ h)))))
  have w_1 : (Cond.fieldLink RX0 36 "QuietCut$Shop" "numbers" "[I").before args s = true := hts _ (List.mem_of_getElem? (i := 2) rfl)
  have i_X7 : ∀ w ∈ u_ws RX7 TX7 4, w ∈ wsX0_planTime := fun _ h => List.mem_cons_of_mem _ (List.mem_append_left _ (List.mem_append_left _ (List.mem_append_left _ (List.mem_append_right _ h))))
  have w_2 : (Cond.methodLink RX0 82 Lib.Math.min.name).before args s = true := hts _ (List.mem_of_getElem? (i := 3) rfl)
  have w_3 : (Cond.static Lib.Math.min.name).before args s = true := hts _ (List.mem_of_getElem? (i := 4) rfl)
  have w_4 : (Cond.initialized "java/lang/Math").before args s = true := hts _ (List.mem_of_getElem? (i := 5) rfl)
  have w_5 : (Cond.code Lib.Math.min.name Lib.Math.min.code 2 (some .int)).before args s = true := hts _ (List.mem_of_getElem? (i := 6) rfl)
  have w_6 : (Cond.fieldLink RX0 15 "QuietCut$Chooser" "leastTime" "[I").before args s = true := hts _ (List.mem_of_getElem? (i := 7) rfl)
  refine g_aload_n F 0 dX0_planTime_0 rfl rfl ?_
  refine g_get (C := RX0) (T := TX0) (N := 8) (v := .ref xs) F i_X0 0 rfl rfl 0 (by decide) w_0 rfl rfl dX0_planTime_1 ?_
  refine g_get (C := RX7) (T := TX7) (N := 4) (v := .ref n) F i_X7 13 rfl rfl 0 (by decide) w_1 rfl rfl dX0_planTime_4 ?_
  refine g_bipush F 9 dX0_planTime_7 (by decide) ?_
  refine g_iald F 14 0 rfl rfl (by unfold vp_in; decide) dX0_planTime_9 ?_
  refine g_fold 4 (by rfl) ?_
  refine g_istore_n F [(3, .int 4), (0, .ref xc), (1, .int a), (2, .int b)] dX0_planTime_10 rfl (by decide) rfl ?_
  refine g_iload_n F 0 dX0_planTime_11 rfl rfl ?_
  refine g_iconst F 1 dX0_planTime_12 (by decide) ?_
  refine g_icmp_lt F 29 dX0_planTime_13 (by decide) (fun h9 => absurd h9 (by decide)) (fun c_13 => ?_)
  refine g_iload_n F 3 dX0_planTime_16 rfl rfl ?_
  refine g_iload_n F 0 dX0_planTime_17 rfl rfl ?_
  refine g_irem F dX0_planTime_18 (by decide) ?_
  refine g_if_ne F 29 dX0_planTime_19 (by decide) (fun c_19 => ?_) (fun c_19 => ?_)
  · refine g_iconst F (-1) dX0_planTime_29 (by decide) ?_
    exact g_iret F hA hQ hr () (sp_plan_n c_19) [] [0] rfl (by decide) rfl rfl dX0_planTime_30
  · refine g_iload_n F 3 dX0_planTime_22 rfl rfl ?_
    refine g_sipush F 400 dX0_planTime_23 (by decide) ?_
    refine g_icmp_le F 31 dX0_planTime_26 (by decide) (fun c_26 => ?_) (fun h9 => absurd (hb.2) h9) 
    obtain ⟨U, hU1, hU, eU⟩ := pl_u hb c_19
    refine g_iload_n F 3 dX0_planTime_31 rfl rfl ?_
    refine g_iload_n F 0 dX0_planTime_32 rfl rfl ?_
    refine g_idiv F dX0_planTime_33 (by decide) ?_
    refine g_fold (nI U) (eU) ?_
    refine g_istore F [(4, .int (nI U)), (3, .int 4), (0, .ref xc), (1, .int a), (2, .int b)] dX0_planTime_34 (by decide) rfl ?_
    refine g_aload_n F 2 dX0_planTime_36 rfl rfl ?_
    refine g_iload_n F 3 dX0_planTime_37 rfl rfl ?_
    refine g_iload F 0 dX0_planTime_38 rfl ?_
    refine g_bipush F 20 dX0_planTime_40 (by decide) ?_
    refine g_mmin F w_2 w_3 w_4 w_5 (Nat.le_of_ble_eq_true rfl) (Nat.le_of_ble_eq_true rfl) (Nat.le_of_ble_eq_true rfl) (Nat.le_of_ble_eq_true rfl) dX0_planTime_42 ?_
    refine g_fold (nI (min U 20)) (pl_min hU) ?_
    refine g_callVv (k := 0) (n := 0) (b := xc) (As := [.int a, .int (nI (min U 20))]) (st := []) (wc := [(xc, .inr (0, [.ref xs, .ref xp, .ref xl, .ref ch_s, .ref ch_t, .ref ch_f, .ref ch_p, .int 0])), (xp, .inr (5, [.ref xs, .ref ph, .int 0, .int 0, .ref pl])), (ph, .inl (cI, 96, .inl (fun _ => 1000))), (ch_s, .inl (cI, 21, .inl (fun _ => 0))), (xl, .inr (4, [.ref xs, .int l_ring, .int l_speed, .int l_feed, .int l_turns, .ref la_t, .int 0, .int l_teethMany, .ref la_h, .ref la_u, .ref la_o, .ref la_x, .int l_wear, .int l_x, .int l_v, .int l_wave, .int l_time, .int l_out, .int l_farthest, .int l_begun])), (la_t, .inl (cI, 4, .inl k_t)), (la_h, .inl (cI, 16, .inl k_h)), (la_u, .inl (cI, 16, .inl k_u)), (la_o, .inl (cI, 16, .inl k_o)), (la_x, .inl (cI, 16, .inl k_x)), (xs, .inr (6, [.ref n, .ref fo, .ref wa, .ref we])), (n, .inl (cI, 36, .inl g_nums)), (fo, .inr (2, [.ref cf, .int 1, .ref sf, .ref wf, .int 0, .int 0, .int 0, .int 0, .int 0])), (cf, .inl (cI, 80, .inl (upd (fun _ => 0) 0 (-1)))), (sf, .inl (cI, 12, .inl k_1)), (wa, .inr (2, [.ref cg, .int 1, .ref sg, .ref wg, .int 0, .int 0, .int 0, .int 0, .int 0])), (cg, .inl (cI, 80, .inl (upd (fun _ => 0) 0 0))), (sg, .inl (cI, 12, .inl k_2)), (we, .inr (2, [.ref ch, .int 1, .ref sh, .ref wh, .int 0, .int 0, .int 0, .int 0, .int 0])), (ch, .inl (cI, 80, .inl (upd (fun _ => 0) 0 0))), (sh, .inl (cI, 12, .inl k_3))]) (wr := [(ch_t, .inl (cI, 401, .inl (fun _ => 0))), (ch_f, .inl (cI, 401, .inl (fun _ => 0))), (ch_p, .inl (cI, 400, .inl (fun _ => 0)))]) F [0, 1, 2, 3, 7, 8, 9, 10, 11, 12, 13, 14, 15, 16, 17, 18, 19, 20, 21, 22, 23] [4, 5, 6] [0] rfl rfl (by decide) rfl (by decide) (by decide) rfl (fun sz => K_X0_findSpeeds l D xc xs xp xl ch_s ch_t ch_f ch_p la_t la_h la_u la_o la_x n fo wa we cf sf wf ch sh wh cg sg wg ph pl cI l_ring l_speed l_feed l_turns l_teethMany l_wear l_x l_v l_wave l_time l_out l_farthest l_begun k_t k_h k_u k_o k_x k_1 k_2 k_3 (fun _ => 0) a (min U 20) (ha) (by omega) sz) (cwV 2 hts gX0_planTime_X0_findSpeeds rfl rfl rfl (by decide +kernel) ⟨Nat.le_of_ble_eq_true rfl, Nat.le_of_ble_eq_true rfl⟩) rfl 0 rfl rfl (Nat.le_of_ble_eq_true rfl) ⟨Nat.le_of_ble_eq_true rfl, Nat.le_of_ble_eq_true rfl⟩ dX0_planTime_45 (fun u_0 hw_2 => ?_)
    obtain ⟨z_ring_3, z_speed_3, z_feed_3, z_turns_3, z_teethMany_3, z_wear_3, z_x_3, z_v_3, z_wave_3, z_time_3, z_out_3, z_farthest_3, z_begun_3, g_t_3, g_h_3, g_u_3, g_o_3, g_x_3, g_1_3, g_2_3, g_3_3⟩ := u_0
    show gG p l e (gR 6 0 0 175) s m args below meth c D A 5 Q 0 0 [(ch_t, .inl (cI, 401, .inl (fun _ => 0))), (ch_f, .inl (cI, 401, .inl (fun _ => 0))), (ch_p, .inl (cI, 400, .inl (fun _ => 0))), (xc, .inr (0, [.ref xs, .ref xp, .ref xl, .ref ch_s, .ref ch_t, .ref ch_f, .ref ch_p, .int 0])), (xp, .inr (5, [.ref xs, .ref ph, .int 0, .int 0, .ref pl])), (ph, .inl (cI, 96, .inl (fun _ => 1000))), (ch_s, .inl (cI, 21, .inl (sp_so (min U 20)))), (xl, .inr (4, [.ref xs, .int z_ring_3, .int z_speed_3, .int z_feed_3, .int z_turns_3, .ref la_t, .int 0, .int z_teethMany_3, .ref la_h, .ref la_u, .ref la_o, .ref la_x, .int z_wear_3, .int z_x_3, .int z_v_3, .int z_wave_3, .int z_time_3, .int z_out_3, .int z_farthest_3, .int z_begun_3])), (la_t, .inl (cI, 4, .inl g_t_3)), (la_h, .inl (cI, 16, .inl g_h_3)), (la_u, .inl (cI, 16, .inl g_u_3)), (la_o, .inl (cI, 16, .inl g_o_3)), (la_x, .inl (cI, 16, .inl g_x_3)), (xs, .inr (6, [.ref n, .ref fo, .ref wa, .ref we])), (n, .inl (cI, 36, .inl g_nums)), (fo, .inr (2, [.ref cf, .int 1, .ref sf, .ref wf, .int 0, .int 0, .int 0, .int 0, .int 0])), (cf, .inl (cI, 80, .inl (upd (fun _ => 0) 0 (-1)))), (sf, .inl (cI, 12, .inl g_1_3)), (wa, .inr (2, [.ref cg, .int 1, .ref sg, .ref wg, .int 0, .int 0, .int 0, .int 0, .int 0])), (cg, .inl (cI, 80, .inl (upd (fun _ => 0) 0 0))), (sg, .inl (cI, 12, .inl g_2_3)), (we, .inr (2, [.ref ch, .int 1, .ref sh, .ref wh, .int 0, .int 0, .int 0, .int 0, .int 0])), (ch, .inl (cI, 80, .inl (upd (fun _ => 0) 0 0))), (sh, .inl (cI, 12, .inl g_3_3))] [(cI, .int)] [(4, .int (nI U)), (3, .int 4), (0, .ref xc), (1, .int a), (2, .int b)] 48 []
    refine g_aload_n F 2 dX0_planTime_48 rfl rfl ?_
    refine g_iload F 0 dX0_planTime_49 rfl ?_
    refine g_callVv (k := 0) (n := 0) (b := xc) (As := [.int (nI U)]) (st := []) (wc := [(xc, .inr (0, [.ref xs, .ref xp, .ref xl, .ref ch_s, .ref ch_t, .ref ch_f, .ref ch_p, .int 0])), (xs, .inr (6, [.ref n, .ref fo, .ref wa, .ref we])), (n, .inl (cI, 36, .inl g_nums)), (ch_s, .inl (cI, 21, .inl (sp_so (min U 20)))), (ch_t, .inl (cI, 401, .inl (fun _ => 0))), (ch_f, .inl (cI, 401, .inl (fun _ => 0)))]) (wr := [(ch_p, .inl (cI, 400, .inl (fun _ => 0))), (xp, .inr (5, [.ref xs, .ref ph, .int 0, .int 0, .ref pl])), (ph, .inl (cI, 96, .inl (fun _ => 1000))), (xl, .inr (4, [.ref xs, .int z_ring_3, .int z_speed_3, .int z_feed_3, .int z_turns_3, .ref la_t, .int 0, .int z_teethMany_3, .ref la_h, .ref la_u, .ref la_o, .ref la_x, .int z_wear_3, .int z_x_3, .int z_v_3, .int z_wave_3, .int z_time_3, .int z_out_3, .int z_farthest_3, .int z_begun_3])), (la_t, .inl (cI, 4, .inl g_t_3)), (la_h, .inl (cI, 16, .inl g_h_3)), (la_u, .inl (cI, 16, .inl g_u_3)), (la_o, .inl (cI, 16, .inl g_o_3)), (la_x, .inl (cI, 16, .inl g_x_3)), (fo, .inr (2, [.ref cf, .int 1, .ref sf, .ref wf, .int 0, .int 0, .int 0, .int 0, .int 0])), (cf, .inl (cI, 80, .inl (upd (fun _ => 0) 0 (-1)))), (sf, .inl (cI, 12, .inl g_1_3)), (wa, .inr (2, [.ref cg, .int 1, .ref sg, .ref wg, .int 0, .int 0, .int 0, .int 0, .int 0])), (cg, .inl (cI, 80, .inl (upd (fun _ => 0) 0 0))), (sg, .inl (cI, 12, .inl g_2_3)), (we, .inr (2, [.ref ch, .int 1, .ref sh, .ref wh, .int 0, .int 0, .int 0, .int 0, .int 0])), (ch, .inl (cI, 80, .inl (upd (fun _ => 0) 0 0))), (sh, .inl (cI, 12, .inl g_3_3))]) F [3, 13, 14, 6, 0, 1] [2, 4, 5, 7, 8, 9, 10, 11, 12, 15, 16, 17, 18, 19, 20, 21, 22, 23] [0] rfl rfl (by decide) rfl (by decide) (by decide) rfl (fun sz => K_X0_findLeastTimes l D xc xs xp xl ch_s ch_t ch_f ch_p n fo wa we cI (fun _ => 0) (fun _ => 0) U (min U 20) (hU1) (by omega) (rfl) sz) (cwV 1 hts gX0_planTime_X0_findLeastTimes rfl rfl rfl (by decide +kernel) ⟨Nat.le_of_ble_eq_true rfl, Nat.le_of_ble_eq_true rfl⟩) rfl 0 rfl rfl (Nat.le_of_ble_eq_true rfl) ⟨Nat.le_of_ble_eq_true rfl, Nat.le_of_ble_eq_true rfl⟩ dX0_planTime_51 (fun u_5 hw_7 => ?_)
    obtain ⟨gT9, gF9⟩ := u_5
    have hw_7 : ∀ j, j ≤ U → gT9 j = sp_lt (min U 20) j ∧ gF9 j = sp_fw (min U 20) j := hw_7
    have hgt := hw_7
    show gG p l e (gR 6 0 0 175) s m args below meth c D A 5 Q 0 0 [(ch_p, .inl (cI, 400, .inl (fun _ => 0))), (xp, .inr (5, [.ref xs, .ref ph, .int 0, .int 0, .ref pl])), (ph, .inl (cI, 96, .inl (fun _ => 1000))), (xl, .inr (4, [.ref xs, .int z_ring_3, .int z_speed_3, .int z_feed_3, .int z_turns_3, .ref la_t, .int 0, .int z_teethMany_3, .ref la_h, .ref la_u, .ref la_o, .ref la_x, .int z_wear_3, .int z_x_3, .int z_v_3, .int z_wave_3, .int z_time_3, .int z_out_3, .int z_farthest_3, .int z_begun_3])), (la_t, .inl (cI, 4, .inl g_t_3)), (la_h, .inl (cI, 16, .inl g_h_3)), (la_u, .inl (cI, 16, .inl g_u_3)), (la_o, .inl (cI, 16, .inl g_o_3)), (la_x, .inl (cI, 16, .inl g_x_3)), (fo, .inr (2, [.ref cf, .int 1, .ref sf, .ref wf, .int 0, .int 0, .int 0, .int 0, .int 0])), (cf, .inl (cI, 80, .inl (upd (fun _ => 0) 0 (-1)))), (sf, .inl (cI, 12, .inl g_1_3)), (wa, .inr (2, [.ref cg, .int 1, .ref sg, .ref wg, .int 0, .int 0, .int 0, .int 0, .int 0])), (cg, .inl (cI, 80, .inl (upd (fun _ => 0) 0 0))), (sg, .inl (cI, 12, .inl g_2_3)), (we, .inr (2, [.ref ch, .int 1, .ref sh, .ref wh, .int 0, .int 0, .int 0, .int 0, .int 0])), (ch, .inl (cI, 80, .inl (upd (fun _ => 0) 0 0))), (sh, .inl (cI, 12, .inl g_3_3)), (xc, .inr (0, [.ref xs, .ref xp, .ref xl, .ref ch_s, .ref ch_t, .ref ch_f, .ref ch_p, .int 0])), (xs, .inr (6, [.ref n, .ref fo, .ref wa, .ref we])), (n, .inl (cI, 36, .inl g_nums)), (ch_s, .inl (cI, 21, .inl (sp_so (min U 20)))), (ch_t, .inl (cI, 401, .inl gT9)), (ch_f, .inl (cI, 401, .inl gF9))] [(cI, .int)] [(4, .int (nI U)), (3, .int 4), (0, .ref xc), (1, .int a), (2, .int b)] 54 []
    refine g_aload_n F 2 dX0_planTime_54 rfl rfl ?_
    refine g_get (C := RX0) (T := TX0) (N := 8) (v := .ref ch_t) F i_X0 18 rfl rfl 4 (by decide) w_6 rfl rfl dX0_planTime_55 ?_
    refine g_iload F 0 dX0_planTime_58 rfl ?_
    refine g_iald F 22 0 rfl rfl (vp_in_nI (by omega) (by decide)) dX0_planTime_60 ?_
    refine g_fold (gT9 U) (by rw [nI_clamp (by omega)]) ?_
    refine g_fold (sp_lt (min U 20) U) ((hgt U (Nat.le_refl _)).1) ?_
    refine g_iconst F (-1) dX0_planTime_61 (by decide) ?_
    refine g_icmp_ne F 67 dX0_planTime_62 (by decide) (fun c_62 => ?_) (fun h9 => absurd h9 (by exact sp_lt_m hU1 hU)) 
    refine g_aload_n F 2 dX0_planTime_67 rfl rfl ?_
    refine g_iload F 0 dX0_planTime_68 rfl ?_
    refine g_callVv (k := 0) (n := 0) (b := xc) (As := [.int (nI U)]) (st := []) (wc := [(xc, .inr (0, [.ref xs, .ref xp, .ref xl, .ref ch_s, .ref ch_t, .ref ch_f, .ref ch_p, .int 0])), (xs, .inr (6, [.ref n, .ref fo, .ref wa, .ref we])), (n, .inl (cI, 36, .inl g_nums)), (ch_s, .inl (cI, 21, .inl (sp_so (min U 20)))), (ch_t, .inl (cI, 401, .inl gT9)), (ch_f, .inl (cI, 401, .inl gF9)), (ch_p, .inl (cI, 400, .inl (fun _ => 0)))]) (wr := [(xp, .inr (5, [.ref xs, .ref ph, .int 0, .int 0, .ref pl])), (ph, .inl (cI, 96, .inl (fun _ => 1000))), (xl, .inr (4, [.ref xs, .int z_ring_3, .int z_speed_3, .int z_feed_3, .int z_turns_3, .ref la_t, .int 0, .int z_teethMany_3, .ref la_h, .ref la_u, .ref la_o, .ref la_x, .int z_wear_3, .int z_x_3, .int z_v_3, .int z_wave_3, .int z_time_3, .int z_out_3, .int z_farthest_3, .int z_begun_3])), (la_t, .inl (cI, 4, .inl g_t_3)), (la_h, .inl (cI, 16, .inl g_h_3)), (la_u, .inl (cI, 16, .inl g_u_3)), (la_o, .inl (cI, 16, .inl g_o_3)), (la_x, .inl (cI, 16, .inl g_x_3)), (fo, .inr (2, [.ref cf, .int 1, .ref sf, .ref wf, .int 0, .int 0, .int 0, .int 0, .int 0])), (cf, .inl (cI, 80, .inl (upd (fun _ => 0) 0 (-1)))), (sf, .inl (cI, 12, .inl g_1_3)), (wa, .inr (2, [.ref cg, .int 1, .ref sg, .ref wg, .int 0, .int 0, .int 0, .int 0, .int 0])), (cg, .inl (cI, 80, .inl (upd (fun _ => 0) 0 0))), (sg, .inl (cI, 12, .inl g_2_3)), (we, .inr (2, [.ref ch, .int 1, .ref sh, .ref wh, .int 0, .int 0, .int 0, .int 0, .int 0])), (ch, .inl (cI, 80, .inl (upd (fun _ => 0) 0 0))), (sh, .inl (cI, 12, .inl g_3_3))]) F [18, 19, 20, 21, 22, 23, 0] [1, 2, 3, 4, 5, 6, 7, 8, 9, 10, 11, 12, 13, 14, 15, 16, 17] [0] rfl rfl (by decide) rfl (by decide) (by decide) rfl (fun sz => K_X0_keepLeastRow l D xc xs xp xl ch_s ch_t ch_f ch_p n fo wa we cI (sp_so (min U 20)) gT9 gF9 (fun _ => 0) (nI U) 0  sz) (cwV 1 hts gX0_planTime_X0_keepLeastRow rfl rfl rfl (by decide +kernel) ⟨Nat.le_of_ble_eq_true rfl, Nat.le_of_ble_eq_true rfl⟩) rfl 0 rfl rfl (Nat.le_of_ble_eq_true rfl) ⟨Nat.le_of_ble_eq_true rfl, Nat.le_of_ble_eq_true rfl⟩ dX0_planTime_70 (fun u_10 hw_12 => ?_)
    obtain ⟨gP_13, zm_13⟩ := u_10
    show gG p l e (gR 6 0 0 175) s m args below meth c D A 5 Q 0 0 [(xp, .inr (5, [.ref xs, .ref ph, .int 0, .int 0, .ref pl])), (ph, .inl (cI, 96, .inl (fun _ => 1000))), (xl, .inr (4, [.ref xs, .int z_ring_3, .int z_speed_3, .int z_feed_3, .int z_turns_3, .ref la_t, .int 0, .int z_teethMany_3, .ref la_h, .ref la_u, .ref la_o, .ref la_x, .int z_wear_3, .int z_x_3, .int z_v_3, .int z_wave_3, .int z_time_3, .int z_out_3, .int z_farthest_3, .int z_begun_3])), (la_t, .inl (cI, 4, .inl g_t_3)), (la_h, .inl (cI, 16, .inl g_h_3)), (la_u, .inl (cI, 16, .inl g_u_3)), (la_o, .inl (cI, 16, .inl g_o_3)), (la_x, .inl (cI, 16, .inl g_x_3)), (fo, .inr (2, [.ref cf, .int 1, .ref sf, .ref wf, .int 0, .int 0, .int 0, .int 0, .int 0])), (cf, .inl (cI, 80, .inl (upd (fun _ => 0) 0 (-1)))), (sf, .inl (cI, 12, .inl g_1_3)), (wa, .inr (2, [.ref cg, .int 1, .ref sg, .ref wg, .int 0, .int 0, .int 0, .int 0, .int 0])), (cg, .inl (cI, 80, .inl (upd (fun _ => 0) 0 0))), (sg, .inl (cI, 12, .inl g_2_3)), (we, .inr (2, [.ref ch, .int 1, .ref sh, .ref wh, .int 0, .int 0, .int 0, .int 0, .int 0])), (ch, .inl (cI, 80, .inl (upd (fun _ => 0) 0 0))), (sh, .inl (cI, 12, .inl g_3_3)), (xc, .inr (0, [.ref xs, .ref xp, .ref xl, .ref ch_s, .ref ch_t, .ref ch_f, .ref ch_p, .int zm_13])), (xs, .inr (6, [.ref n, .ref fo, .ref wa, .ref we])), (n, .inl (cI, 36, .inl g_nums)), (ch_s, .inl (cI, 21, .inl (sp_so (min U 20)))), (ch_t, .inl (cI, 401, .inl gT9)), (ch_f, .inl (cI, 401, .inl gF9)), (ch_p, .inl (cI, 400, .inl gP_13))] [(cI, .int)] [(4, .int (nI U)), (3, .int 4), (0, .ref xc), (1, .int a), (2, .int b)] 73 []
    refine g_aload_n F 2 dX0_planTime_73 rfl rfl ?_
    refine g_get (C := RX0) (T := TX0) (N := 8) (v := .ref ch_t) F i_X0 17 rfl rfl 4 (by decide) w_6 rfl rfl dX0_planTime_74 ?_
    refine g_iload F 0 dX0_planTime_77 rfl ?_
    refine g_iald F 21 0 rfl rfl (vp_in_nI (by omega) (by decide)) dX0_planTime_79 ?_
    refine g_fold (gT9 U) (by rw [nI_clamp (by omega)]) ?_
    refine g_fold (sp_lt (min U 20) U) ((hgt U (Nat.le_refl _)).1) ?_
    exact g_iret F hA hQ hr () (sp_plan_y c_19 eU hU) [] [0] rfl (by decide) rfl rfl dX0_planTime_80

theorem dX11_plan_0 : decode cX11_plan 0 = .ok (.aload_n 0, 1) := by decide +kernel
theorem dX11_plan_1 : decode cX11_plan 1 = .ok (.getfield 19, 3) := by decide +kernel
theorem dX11_plan_4 : decode cX11_plan 4 = .ok (.iload_n 1, 1) := by decide +kernel
theorem dX11_plan_5 : decode cX11_plan 5 = .ok (.invokevirtual 219, 3) := by decide +kernel
theorem dX11_plan_8 : decode cX11_plan 8 = .ok (.ifCond .eq 15, 3) := by decide +kernel
theorem dX11_plan_11 : decode cX11_plan 11 = .ok (.iload_n 2, 1) := by decide +kernel
theorem dX11_plan_12 : decode cX11_plan 12 = .ok (.iconst 1, 1) := by decide +kernel
theorem dX11_plan_13 : decode cX11_plan 13 = .ok (.if_icmp .lt 10, 3) := by decide +kernel
theorem dX11_plan_16 : decode cX11_plan 16 = .ok (.iload_n 2, 1) := by decide +kernel
theorem dX11_plan_17 : decode cX11_plan 17 = .ok (.sipush 400, 3) := by decide +kernel
theorem dX11_plan_20 : decode cX11_plan 20 = .ok (.if_icmp .le 6, 3) := by decide +kernel
theorem dX11_plan_23 : decode cX11_plan 23 = .ok (.bipush (-2), 2) := by decide +kernel
theorem dX11_plan_25 : decode cX11_plan 25 = .ok (.ireturn, 1) := by decide +kernel
theorem dX11_plan_26 : decode cX11_plan 26 = .ok (.aload_n 0, 1) := by decide +kernel
theorem dX11_plan_27 : decode cX11_plan 27 = .ok (.getfield 56, 3) := by decide +kernel
theorem dX11_plan_30 : decode cX11_plan 30 = .ok (.iload_n 1, 1) := by decide +kernel
theorem dX11_plan_31 : decode cX11_plan 31 = .ok (.iload_n 2, 1) := by decide +kernel
theorem dX11_plan_32 : decode cX11_plan 32 = .ok (.invokevirtual 225, 3) := by decide +kernel
theorem dX11_plan_35 : decode cX11_plan 35 = .ok (.ireturn, 1) := by decide +kernel
set_option maxRecDepth 20000 in
theorem ggX11_plan_X0_planTime : GoodIn wsX11_plan wsX0_planTime := goodIn_r _ [13, 14, 15, 16, 17, 18, 19, 20, 21, 22, 23, 12, 24, 25, 26, 27, 28, 29, 30, 31, 32, 33, 34, 35, 36, 37, 38, 39, 40, 41, 42, 43, 44, 45, 46, 47, 48, 4, 5, 6, 7, 8, 49, 50, 51, 52, 53, 54, 55, 56, 57, 58, 59, 60, 61, 62, 63, 64, 65, 66, 67, 68, 69, 70, 71, 72, 73, 74, 75, 76, 77, 78, 79, 80, 81, 82, 83, 84, 85, 86, 87, 88, 89, 90, 91, 92, 93, 94, 95, 96, 97, 98, 99, 100, 101, 102, 103, 104, 105, 106, 107, 108, 109, 110, 111, 112, 113, 114, 115, 116, 117, 118, 119, 120, 121, 122, 123, 124, 125, 126, 127, 128, 129, 130, 131, 132, 133, 134, 135, 136, 137, 138, 139, 140, 141, 142, 143, 144, 145, 146, 147, 148, 149, 150, 151, 152, 153, 154, 155, 156, 157, 158, 159, 160, 161, 162, 163, 164, 165, 166, 167, 186, 187, 188, 189, 190, 191, 192, 193, 182, 183, 184, 185, 194, 195, 196, 197, 198, 199, 200, 201, 202, 203, 204, 205, 206, 207, 208, 209, 210, 211, 212, 213, 214, 215, 216, 217, 218, 219, 220, 221, 222, 223, 224, 225, 226, 227] rfl (by decide +kernel)
set_option maxRecDepth 20000 in
theorem gX11_plan_X0_planTime : GoodIn wsX11_plan (wsV RX11 225 RX0 yX0_planTime wsX0_planTime) := goodIn_app (goodIn_of _ (by decide +kernel)) ggX11_plan_X0_planTime
set_option maxRecDepth 20000 in
theorem ggX11_plan_X7_hasRing : GoodIn wsX11_plan wsX7_hasRing := goodIn_r _ [7, 8, 182, 183, 184, 185] rfl (by decide +kernel)
set_option maxRecDepth 20000 in
theorem gX11_plan_X7_hasRing : GoodIn wsX11_plan (wsV RX11 219 RX7 yX7_hasRing wsX7_hasRing) := goodIn_app (goodIn_of _ (by decide +kernel)) ggX11_plan_X7_hasRing
set_option maxHeartbeats 4000000 in
set_option maxRecDepth 100000 in
theorem K_X11_plan (l : Launch) (D : va_G) (x0 : Nat) (xt : Nat) (xs : Nat) (xq : Nat) (xr : Nat) (xp : Nat) (xl : Nat) (xc : Nat) (xj : Nat) (xe : Nat) (xo : Nat) (pa : Nat) (la_t : Nat) (la_h : Nat) (la_u : Nat) (la_o : Nat) (la_x : Nat) (ch_s : Nat) (ch_t : Nat) (ch_f : Nat) (ch_p : Nat) (cI : ClassId) (n : Nat) (fo : Nat) (wa : Nat) (we : Nat) (cf : Nat) (sf : Nat) (wf : Nat) (cg : Nat) (sg : Nat) (wg : Nat) (ch : Nat) (sh : Nat) (wh : Nat) (ph : Nat) (pl : Nat) (a : Int32) (b : Int32) (sz : Nat) : Ki l yX11_plan wsX11_plan 7 199 0 0 D [.ref x0, .int a, .int b] [(x0, .inr (10, [.ref xt, .ref xs, .ref xq, .ref xr, .ref xp, .ref xl, .ref xc, .ref xj, .ref xe, .ref xo, .ref pa, .int 0, .int 0, .int (-1)])), (xl, .inr (4, [.ref xs, .int 0, .int 0, .int 0, .int 0, .ref la_t, .int 0, .int 0, .ref la_h, .ref la_u, .ref la_o, .ref la_x, .int 0, .int 0, .int 0, .int 0, .int 0, .int 0, .int 0, .int 0])), (xc, .inr (0, [.ref xs, .ref xp, .ref xl, .ref ch_s, .ref ch_t, .ref ch_f, .ref ch_p, .int 0])), (la_t, .inl (cI, 4, .inl (fun _ => 0))), (la_h, .inl (cI, 16, .inl (fun _ => 0))), (la_u, .inl (cI, 16, .inl (fun _ => 0))), (la_o, .inl (cI, 16, .inl (fun _ => 0))), (la_x, .inl (cI, 16, .inl (fun _ => 0))), (xs, .inr (6, [.ref n, .ref fo, .ref wa, .ref we])), (n, .inl (cI, 36, .inl g_nums)), (fo, .inr (2, [.ref cf, .int 1, .ref sf, .ref wf, .int 0, .int 0, .int 0, .int 0, .int 0])), (cf, .inl (cI, 80, .inl (upd (fun _ => 0) 0 (-1)))), (sf, .inl (cI, 12, .inl (fun _ => 0))), (wa, .inr (2, [.ref cg, .int 1, .ref sg, .ref wg, .int 0, .int 0, .int 0, .int 0, .int 0])), (cg, .inl (cI, 80, .inl (upd (fun _ => 0) 0 0))), (sg, .inl (cI, 12, .inl (fun _ => 0))), (we, .inr (2, [.ref ch, .int 1, .ref sh, .ref wh, .int 0, .int 0, .int 0, .int 0, .int 0])), (ch, .inl (cI, 80, .inl (upd (fun _ => 0) 0 0))), (sh, .inl (cI, 12, .inl (fun _ => 0))), (xp, .inr (5, [.ref xs, .ref ph, .int 0, .int 0, .ref pl])), (ph, .inl (cI, 96, .inl (fun _ => 1000))), (ch_s, .inl (cI, 21, .inl (fun _ => 0))), (ch_t, .inl (cI, 401, .inl (fun _ => 0))), (ch_f, .inl (cI, 401, .inl (fun _ => 0))), (ch_p, .inl (cI, 400, .inl (fun _ => 0)))] [(cI, .int)] sz (fun (r : Int32) (_ : Unit) => r = (if (0 ≤ a ∧ a ≤ 2) ∧ 1 ≤ b ∧ b ≤ 400 then (sp_plan b) else (-2))) (fun (_ : Unit) => []) (fun (_ : Unit) => [(cI, .int)]) := by
  unfold Ki
  refine g_ofW (cc := cX11_plan) (lv := [(0, .ref x0), (1, .int a), (2, .int b)]) (by decide) rfl (Nat.le_of_ble_eq_true rfl) rfl ?_
  intro p e s m args below meth c A Q hA hQ F hr hnm
  have hts := F.2.2.2.2.1
  have w_0 : (Cond.fieldLink RX11 19 "QuietCut" "shop" "LQuietCut$Shop;").before args s = true := hts _ (List.mem_of_getElem? (i := 1) rfl)
  have i_X11 : ∀ w ∈ u_ws RX11 TX11 14, w ∈ wsX11_plan := fun _ h => List.mem_cons_of_mem _ (List.mem_append_left _ (List.mem_append_left _ (List.mem_append_left _ (List.mem_append_left _ (List.mem_append_left _ (List.mem_append_right _ h))))))
  have w_1 : (Cond.fieldLink RX11 56 "QuietCut" "chooser" "LQuietCut$Chooser;").before args s = true := hts _ (List.mem_of_getElem? (i := 2) rfl)
  refine g_aload_n F 0 dX11_plan_0 rfl rfl ?_
  refine g_get (C := RX11) (T := TX11) (N := 14) (v := .ref xs) F i_X11 0 rfl rfl 1 (by decide) w_0 rfl rfl dX11_plan_1 ?_
  refine g_iload_n F 1 dX11_plan_4 rfl rfl ?_
  refine g_callVi (k := 0) (n := 0) (b := xs) (As := [.int a]) (st := []) (wc := [(xs, .inr (6, [.ref n, .ref fo, .ref wa, .ref we])), (n, .inl (cI, 36, .inl g_nums))]) (wr := [(x0, .inr (10, [.ref xt, .ref xs, .ref xq, .ref xr, .ref xp, .ref xl, .ref xc, .ref xj, .ref xe, .ref xo, .ref pa, .int 0, .int 0, .int (-1)])), (xl, .inr (4, [.ref xs, .int 0, .int 0, .int 0, .int 0, .ref la_t, .int 0, .int 0, .ref la_h, .ref la_u, .ref la_o, .ref la_x, .int 0, .int 0, .int 0, .int 0, .int 0, .int 0, .int 0, .int 0])), (xc, .inr (0, [.ref xs, .ref xp, .ref xl, .ref ch_s, .ref ch_t, .ref ch_f, .ref ch_p, .int 0])), (la_t, .inl (cI, 4, .inl (fun _ => 0))), (la_h, .inl (cI, 16, .inl (fun _ => 0))), (la_u, .inl (cI, 16, .inl (fun _ => 0))), (la_o, .inl (cI, 16, .inl (fun _ => 0))), (la_x, .inl (cI, 16, .inl (fun _ => 0))), (fo, .inr (2, [.ref cf, .int 1, .ref sf, .ref wf, .int 0, .int 0, .int 0, .int 0, .int 0])), (cf, .inl (cI, 80, .inl (upd (fun _ => 0) 0 (-1)))), (sf, .inl (cI, 12, .inl (fun _ => 0))), (wa, .inr (2, [.ref cg, .int 1, .ref sg, .ref wg, .int 0, .int 0, .int 0, .int 0, .int 0])), (cg, .inl (cI, 80, .inl (upd (fun _ => 0) 0 0))), (sg, .inl (cI, 12, .inl (fun _ => 0))), (we, .inr (2, [.ref ch, .int 1, .ref sh, .ref wh, .int 0, .int 0, .int 0, .int 0, .int 0])), (ch, .inl (cI, 80, .inl (upd (fun _ => 0) 0 0))), (sh, .inl (cI, 12, .inl (fun _ => 0))), (xp, .inr (5, [.ref xs, .ref ph, .int 0, .int 0, .ref pl])), (ph, .inl (cI, 96, .inl (fun _ => 1000))), (ch_s, .inl (cI, 21, .inl (fun _ => 0))), (ch_t, .inl (cI, 401, .inl (fun _ => 0))), (ch_f, .inl (cI, 401, .inl (fun _ => 0))), (ch_p, .inl (cI, 400, .inl (fun _ => 0)))]) F [8, 9] [0, 1, 2, 3, 4, 5, 6, 7, 10, 11, 12, 13, 14, 15, 16, 17, 18, 19, 20, 21, 22, 23, 24] [0] rfl rfl (by decide) rfl (by decide) (by decide) rfl (fun sz => K_X7_hasRing l D xs n fo wa we cI a  sz) (cwV 1 hts gX11_plan_X7_hasRing rfl rfl rfl (by decide +kernel) ⟨Nat.le_of_ble_eq_true rfl, Nat.le_of_ble_eq_true rfl⟩) rfl 0 rfl rfl (Nat.le_of_ble_eq_true rfl) ⟨Nat.le_of_ble_eq_true rfl, Nat.le_of_ble_eq_true rfl⟩ dX11_plan_5 (fun r_1 _ hw_2 => ?_)
  have hw_2 : r_1 = (if 0 ≤ a ∧ a < 3 then 1 else 0) := hw_2
  have e_r_1 := hw_2
  show gG p l e (gR 7 0 0 199) s m args below meth c D A 3 Q 0 0 [(x0, .inr (10, [.ref xt, .ref xs, .ref xq, .ref xr, .ref xp, .ref xl, .ref xc, .ref xj, .ref xe, .ref xo, .ref pa, .int 0, .int 0, .int (-1)])), (xl, .inr (4, [.ref xs, .int 0, .int 0, .int 0, .int 0, .ref la_t, .int 0, .int 0, .ref la_h, .ref la_u, .ref la_o, .ref la_x, .int 0, .int 0, .int 0, .int 0, .int 0, .int 0, .int 0, .int 0])), (xc, .inr (0, [.ref xs, .ref xp, .ref xl, .ref ch_s, .ref ch_t, .ref ch_f, .ref ch_p, .int 0])), (la_t, .inl (cI, 4, .inl (fun _ => 0))), (la_h, .inl (cI, 16, .inl (fun _ => 0))), (la_u, .inl (cI, 16, .inl (fun _ => 0))), (la_o, .inl (cI, 16, .inl (fun _ => 0))), (la_x, .inl (cI, 16, .inl (fun _ => 0))), (fo, .inr (2, [.ref cf, .int 1, .ref sf, .ref wf, .int 0, .int 0, .int 0, .int 0, .int 0])), (cf, .inl (cI, 80, .inl (upd (fun _ => 0) 0 (-1)))), (sf, .inl (cI, 12, .inl (fun _ => 0))), (wa, .inr (2, [.ref cg, .int 1, .ref sg, .ref wg, .int 0, .int 0, .int 0, .int 0, .int 0])), (cg, .inl (cI, 80, .inl (upd (fun _ => 0) 0 0))), (sg, .inl (cI, 12, .inl (fun _ => 0))), (we, .inr (2, [.ref ch, .int 1, .ref sh, .ref wh, .int 0, .int 0, .int 0, .int 0, .int 0])), (ch, .inl (cI, 80, .inl (upd (fun _ => 0) 0 0))), (sh, .inl (cI, 12, .inl (fun _ => 0))), (xp, .inr (5, [.ref xs, .ref ph, .int 0, .int 0, .ref pl])), (ph, .inl (cI, 96, .inl (fun _ => 1000))), (ch_s, .inl (cI, 21, .inl (fun _ => 0))), (ch_t, .inl (cI, 401, .inl (fun _ => 0))), (ch_f, .inl (cI, 401, .inl (fun _ => 0))), (ch_p, .inl (cI, 400, .inl (fun _ => 0))), (xs, .inr (6, [.ref n, .ref fo, .ref wa, .ref we])), (n, .inl (cI, 36, .inl g_nums))] [(cI, .int)] [(0, .ref x0), (1, .int a), (2, .int b)] 8 [.int r_1]
  refine g_fold (if 0 ≤ a ∧ a < 3 then 1 else 0) e_r_1 ?_
  refine g_if_eq F 23 dX11_plan_8 (by decide) (fun c_8 => ?_) (fun c_8 => ?_)
  · have c_8 := gb_0 c_8
    refine g_bipush F (-2) dX11_plan_23 (by decide) ?_
    exact g_iret F hA hQ hr () (by first | exact (gi_e (by (simp only [Int32.lt_iff_toInt_lt, Int32.le_iff_toInt_le, ← Int32.toInt_inj, Int32.reduceToInt] at c_8 ⊢; omega)) rfl)) [] [0] rfl (by decide) rfl rfl dX11_plan_25
  · have c_8 := gb_n0 c_8
    refine g_iload_n F 2 dX11_plan_11 rfl rfl ?_
    refine g_iconst F 1 dX11_plan_12 (by decide) ?_
    refine g_icmp_lt F 23 dX11_plan_13 (by decide) (fun c_13 => ?_) (fun c_13 => ?_)
    · refine g_bipush F (-2) dX11_plan_23 (by decide) ?_
      exact g_iret F hA hQ hr () (by first | exact (gi_e (by (simp only [Int32.lt_iff_toInt_lt, Int32.le_iff_toInt_le, ← Int32.toInt_inj, Int32.reduceToInt] at c_8 c_13 ⊢; omega)) rfl)) [] [0] rfl (by decide) rfl rfl dX11_plan_25
    · refine g_iload_n F 2 dX11_plan_16 rfl rfl ?_
      refine g_sipush F 400 dX11_plan_17 (by decide) ?_
      refine g_icmp_le F 26 dX11_plan_20 (by decide) (fun c_20 => ?_) (fun c_20 => ?_)
      · refine g_aload_n F 0 dX11_plan_26 rfl rfl ?_
        refine g_get (C := RX11) (T := TX11) (N := 14) (v := .ref xc) F i_X11 0 rfl rfl 6 (by decide) w_1 rfl rfl dX11_plan_27 ?_
        refine g_iload_n F 1 dX11_plan_30 rfl rfl ?_
        refine g_iload_n F 2 dX11_plan_31 rfl rfl ?_
        refine g_callVi (k := 0) (n := 0) (b := xc) (As := [.int a, .int b]) (st := []) (wc := [(xc, .inr (0, [.ref xs, .ref xp, .ref xl, .ref ch_s, .ref ch_t, .ref ch_f, .ref ch_p, .int 0])), (xp, .inr (5, [.ref xs, .ref ph, .int 0, .int 0, .ref pl])), (ph, .inl (cI, 96, .inl (fun _ => 1000))), (ch_s, .inl (cI, 21, .inl (fun _ => 0))), (ch_t, .inl (cI, 401, .inl (fun _ => 0))), (ch_f, .inl (cI, 401, .inl (fun _ => 0))), (ch_p, .inl (cI, 400, .inl (fun _ => 0))), (xl, .inr (4, [.ref xs, .int 0, .int 0, .int 0, .int 0, .ref la_t, .int 0, .int 0, .ref la_h, .ref la_u, .ref la_o, .ref la_x, .int 0, .int 0, .int 0, .int 0, .int 0, .int 0, .int 0, .int 0])), (la_t, .inl (cI, 4, .inl (fun _ => 0))), (la_h, .inl (cI, 16, .inl (fun _ => 0))), (la_u, .inl (cI, 16, .inl (fun _ => 0))), (la_o, .inl (cI, 16, .inl (fun _ => 0))), (la_x, .inl (cI, 16, .inl (fun _ => 0))), (xs, .inr (6, [.ref n, .ref fo, .ref wa, .ref we])), (n, .inl (cI, 36, .inl g_nums)), (fo, .inr (2, [.ref cf, .int 1, .ref sf, .ref wf, .int 0, .int 0, .int 0, .int 0, .int 0])), (cf, .inl (cI, 80, .inl (upd (fun _ => 0) 0 (-1)))), (sf, .inl (cI, 12, .inl (fun _ => 0))), (wa, .inr (2, [.ref cg, .int 1, .ref sg, .ref wg, .int 0, .int 0, .int 0, .int 0, .int 0])), (cg, .inl (cI, 80, .inl (upd (fun _ => 0) 0 0))), (sg, .inl (cI, 12, .inl (fun _ => 0))), (we, .inr (2, [.ref ch, .int 1, .ref sh, .ref wh, .int 0, .int 0, .int 0, .int 0, .int 0])), (ch, .inl (cI, 80, .inl (upd (fun _ => 0) 0 0))), (sh, .inl (cI, 12, .inl (fun _ => 0)))]) (wr := [(x0, .inr (10, [.ref xt, .ref xs, .ref xq, .ref xr, .ref xp, .ref xl, .ref xc, .ref xj, .ref xe, .ref xo, .ref pa, .int 0, .int 0, .int (-1)]))]) F [2, 17, 18, 19, 20, 21, 22, 1, 3, 4, 5, 6, 7, 23, 24, 8, 9, 10, 11, 12, 13, 14, 15, 16] [0] [0] rfl rfl (by decide) rfl (by decide) (by decide) rfl (fun sz => K_X0_planTime l D xc xs xp xl ch_s ch_t ch_f ch_p ph pl cI 0 0 0 0 0 0 0 0 0 0 0 0 0 (fun _ => 0) (fun _ => 0) (fun _ => 0) (fun _ => 0) (fun _ => 0) (fun _ => 0) (fun _ => 0) (fun _ => 0) a b la_t la_h la_u la_o la_x n fo wa we cf sf wf ch sh wh cg sg wg (c_8) (⟨Int32.not_lt.mp c_13, c_20⟩) sz) (cwV 2 hts gX11_plan_X0_planTime rfl rfl rfl (by decide +kernel) ⟨Nat.le_of_ble_eq_true rfl, Nat.le_of_ble_eq_true rfl⟩) rfl 0 rfl rfl (Nat.le_of_ble_eq_true rfl) ⟨Nat.le_of_ble_eq_true rfl, Nat.le_of_ble_eq_true rfl⟩ dX11_plan_32 (fun r_6 _ hw_7 => ?_)
        have hw_7 : r_6 = (sp_plan b) := hw_7
        have e_r_6 := hw_7
        show gG p l e (gR 7 0 0 199) s m args below meth c D A 3 Q 0 0 [(x0, .inr (10, [.ref xt, .ref xs, .ref xq, .ref xr, .ref xp, .ref xl, .ref xc, .ref xj, .ref xe, .ref xo, .ref pa, .int 0, .int 0, .int (-1)]))] [(cI, .int)] [(0, .ref x0), (1, .int a), (2, .int b)] 35 [.int r_6]
        refine g_fold (sp_plan b) e_r_6 ?_
        exact g_iret F hA hQ hr () (by first | exact (gi_p (by (simp only [Int32.lt_iff_toInt_lt, Int32.le_iff_toInt_le, ← Int32.toInt_inj, Int32.reduceToInt] at c_8 c_13 c_20 ⊢; omega)) rfl)) [] [0] rfl (by decide) rfl rfl dX11_plan_35
      · refine g_bipush F (-2) dX11_plan_23 (by decide) ?_
        exact g_iret F hA hQ hr () (by first | exact (gi_e (by (simp only [Int32.lt_iff_toInt_lt, Int32.le_iff_toInt_le, ← Int32.toInt_inj, Int32.reduceToInt] at c_8 c_13 c_20 ⊢; omega)) rfl)) [] [0] rfl (by decide) rfl rfl dX11_plan_25
