theorem dX13_in_0 : decode cX13_in 0 = .ok (.lload_n 0, 1) := by decide +kernel
theorem dX13_in_1 : decode cX13_in 1 = .ok (.lload_n 2, 1) := by decide +kernel
theorem dX13_in_2 : decode cX13_in 2 = .ok (.lcmp, 1) := by decide +kernel
theorem dX13_in_3 : decode cX13_in 3 = .ok (.ifCond .lt 14, 3) := by decide +kernel
theorem dX13_in_6 : decode cX13_in 6 = .ok (.lload_n 0, 1) := by decide +kernel
theorem dX13_in_7 : decode cX13_in 7 = .ok (.lload 4, 2) := by decide +kernel
theorem dX13_in_9 : decode cX13_in 9 = .ok (.lcmp, 1) := by decide +kernel
theorem dX13_in_10 : decode cX13_in 10 = .ok (.ifCond .gt 7, 3) := by decide +kernel
theorem dX13_in_13 : decode cX13_in 13 = .ok (.iconst 1, 1) := by decide +kernel
theorem dX13_in_14 : decode cX13_in 14 = .ok (.goto 4, 3) := by decide +kernel
theorem dX13_in_17 : decode cX13_in 17 = .ok (.iconst 0, 1) := by decide +kernel
theorem dX13_in_18 : decode cX13_in 18 = .ok (.ireturn, 1) := by decide +kernel
set_option maxHeartbeats 4000000 in
set_option maxRecDepth 100000 in
theorem S_X13_in (l : Launch) (D : va_G)  (p0 : Int64) (s0 : Int) (p1 : Int64) (s1 : Int) (p2 : Int64) (s2 : Int) (e0 : p0.toInt = s0) (e1 : p1.toInt = s1) (e2 : p2.toInt = s2) (sz : Nat) : Ki l yX13_in wsX13_in 1 40 0 0 D [.long p0, .long p1, .long p2] [] [] sz (fun (r : Int32) (_ : Unit) => ((r = 1 ∧ (s1 ≤ s0 ∧ s0 ≤ s2)) ∨ (r = 0 ∧ (s0 < s1 ∨ s2 < s0)))) (fun (_ : Unit) => []) (fun _ => []) := by
  unfold Ki
  refine g_ofW (cc := cX13_in) (lv := [(0, .long p0), (2, .long p1), (4, .long p2)]) (by decide) rfl (Nat.le_of_ble_eq_true rfl) rfl ?_
  intro p e s m args below meth c A Q hA hQ F hr hnm
  have hts := F.2.2.2.2.1
  refine g_lload_n F 0 dX13_in_0 rfl rfl ?_
  refine g_lload_n F 1 dX13_in_1 rfl rfl ?_
  refine u_lcmp F dX13_in_2 s0 s1 e0 e1 (fun c1 => ?_) (fun c1 => ?_) (fun c1 => ?_)
  · refine v_if_lt F 17 dX13_in_3 (by decide) (-1) rfl (fun c2 => ?_) (fun c2 => absurd c2 (by decide))
    refine g_iconst F 0 dX13_in_17 (by decide) ?_
    exact u_zret F hA hQ hr rfl () ((Or.inr (⟨rfl, by first | trivial | omega⟩))) rfl rfl dX13_in_18
  · refine v_if_lt F 17 dX13_in_3 (by decide) 0 rfl (fun c3 => absurd c3 (by decide)) (fun c3 => ?_)
    refine g_lload_n F 0 dX13_in_6 rfl rfl ?_
    refine g_lload F 2 dX13_in_7 rfl ?_
    refine u_lcmp F dX13_in_9 s0 s2 e0 e2 (fun c4 => ?_) (fun c4 => ?_) (fun c4 => ?_)
    · refine v_if_gt F 17 dX13_in_10 (by decide) (-1) rfl (fun c5 => absurd c5 (by decide)) (fun c5 => ?_)
      refine g_iconst F 1 dX13_in_13 (by decide) ?_
      refine g_goto F 18 dX13_in_14 (by decide) ?_
      exact u_zret F hA hQ hr rfl () ((Or.inl (⟨rfl, by first | trivial | omega⟩))) rfl rfl dX13_in_18
    · refine v_if_gt F 17 dX13_in_10 (by decide) 0 rfl (fun c6 => absurd c6 (by decide)) (fun c6 => ?_)
      refine g_iconst F 1 dX13_in_13 (by decide) ?_
      refine g_goto F 18 dX13_in_14 (by decide) ?_
      exact u_zret F hA hQ hr rfl () ((Or.inl (⟨rfl, by first | trivial | omega⟩))) rfl rfl dX13_in_18
    · refine v_if_gt F 17 dX13_in_10 (by decide) 1 rfl (fun c7 => ?_) (fun c7 => absurd c7 (by decide))
      refine g_iconst F 0 dX13_in_17 (by decide) ?_
      exact u_zret F hA hQ hr rfl () ((Or.inr (⟨rfl, by first | trivial | omega⟩))) rfl rfl dX13_in_18
  · refine v_if_lt F 17 dX13_in_3 (by decide) 1 rfl (fun c8 => absurd c8 (by decide)) (fun c8 => ?_)
    refine g_lload_n F 0 dX13_in_6 rfl rfl ?_
    refine g_lload F 2 dX13_in_7 rfl ?_
    refine u_lcmp F dX13_in_9 s0 s2 e0 e2 (fun c9 => ?_) (fun c9 => ?_) (fun c9 => ?_)
    · refine v_if_gt F 17 dX13_in_10 (by decide) (-1) rfl (fun c10 => absurd c10 (by decide)) (fun c10 => ?_)
      refine g_iconst F 1 dX13_in_13 (by decide) ?_
      refine g_goto F 18 dX13_in_14 (by decide) ?_
      exact u_zret F hA hQ hr rfl () ((Or.inl (⟨rfl, by first | trivial | omega⟩))) rfl rfl dX13_in_18
    · refine v_if_gt F 17 dX13_in_10 (by decide) 0 rfl (fun c11 => absurd c11 (by decide)) (fun c11 => ?_)
      refine g_iconst F 1 dX13_in_13 (by decide) ?_
      refine g_goto F 18 dX13_in_14 (by decide) ?_
      exact u_zret F hA hQ hr rfl () ((Or.inl (⟨rfl, by first | trivial | omega⟩))) rfl rfl dX13_in_18
    · refine v_if_gt F 17 dX13_in_10 (by decide) 1 rfl (fun c12 => ?_) (fun c12 => absurd c12 (by decide))
      refine g_iconst F 0 dX13_in_17 (by decide) ?_
      exact u_zret F hA hQ hr rfl () ((Or.inr (⟨rfl, by first | trivial | omega⟩))) rfl rfl dX13_in_18

theorem dX13_isSmall_0 : decode cX13_isSmall 0 = .ok (.iload_n 0, 1) := by decide +kernel
theorem dX13_isSmall_1 : decode cX13_isSmall 1 = .ok (.bipush 97, 2) := by decide +kernel
theorem dX13_isSmall_3 : decode cX13_isSmall 3 = .ok (.if_icmp .lt 13, 3) := by decide +kernel
theorem dX13_isSmall_6 : decode cX13_isSmall 6 = .ok (.iload_n 0, 1) := by decide +kernel
theorem dX13_isSmall_7 : decode cX13_isSmall 7 = .ok (.bipush 122, 2) := by decide +kernel
theorem dX13_isSmall_9 : decode cX13_isSmall 9 = .ok (.if_icmp .gt 7, 3) := by decide +kernel
theorem dX13_isSmall_12 : decode cX13_isSmall 12 = .ok (.iconst 1, 1) := by decide +kernel
theorem dX13_isSmall_13 : decode cX13_isSmall 13 = .ok (.goto 4, 3) := by decide +kernel
theorem dX13_isSmall_16 : decode cX13_isSmall 16 = .ok (.iconst 0, 1) := by decide +kernel
theorem dX13_isSmall_17 : decode cX13_isSmall 17 = .ok (.ireturn, 1) := by decide +kernel
set_option maxHeartbeats 4000000 in
set_option maxRecDepth 100000 in
theorem S_X13_isSmall (l : Launch) (D : va_G)  (p0 : Int32) (s0 : Int) (e0 : p0.toInt = s0) (sz : Nat) : Ki l yX13_isSmall wsX13_isSmall 1 40 0 0 D [.int p0] [] [] sz (fun (r : Int32) (_ : Unit) => ((r = 1 ∧ (97 ≤ s0 ∧ s0 ≤ 122)) ∨ (r = 0 ∧ (s0 < 97 ∨ 122 < s0)))) (fun (_ : Unit) => []) (fun _ => []) := by
  unfold Ki
  refine g_ofW (cc := cX13_isSmall) (lv := [(0, .int p0)]) (by decide) rfl (Nat.le_of_ble_eq_true rfl) rfl ?_
  intro p e s m args below meth c A Q hA hQ F hr hnm
  have hts := F.2.2.2.2.1
  have rg0 : -2147483648 ≤ s0 ∧ s0 ≤ 2147483647 := e0 ▸ ti_rng p0
  refine g_iload_n F 0 dX13_isSmall_0 rfl rfl ?_
  refine g_bipush F 97 dX13_isSmall_1 (by decide) ?_
  refine v_icmp_lt F 16 dX13_isSmall_3 (by decide) s0 97 e0 rfl (fun c1 => ?_) (fun c1 => ?_)
  · refine g_iconst F 0 dX13_isSmall_16 (by decide) ?_
    exact u_zret F hA hQ hr rfl () ((Or.inr (⟨rfl, by first | trivial | omega⟩))) rfl rfl dX13_isSmall_17
  · refine g_iload_n F 0 dX13_isSmall_6 rfl rfl ?_
    refine g_bipush F 122 dX13_isSmall_7 (by decide) ?_
    refine v_icmp_gt F 16 dX13_isSmall_9 (by decide) s0 122 e0 rfl (fun c2 => ?_) (fun c2 => ?_)
    · refine g_iconst F 0 dX13_isSmall_16 (by decide) ?_
      exact u_zret F hA hQ hr rfl () ((Or.inr (⟨rfl, by first | trivial | omega⟩))) rfl rfl dX13_isSmall_17
    · refine g_iconst F 1 dX13_isSmall_12 (by decide) ?_
      refine g_goto F 17 dX13_isSmall_13 (by decide) ?_
      exact u_zret F hA hQ hr rfl () ((Or.inl (⟨rfl, by first | trivial | omega⟩))) rfl rfl dX13_isSmall_17

theorem dX13_isDigit_0 : decode cX13_isDigit 0 = .ok (.iload_n 0, 1) := by decide +kernel
theorem dX13_isDigit_1 : decode cX13_isDigit 1 = .ok (.bipush 48, 2) := by decide +kernel
theorem dX13_isDigit_3 : decode cX13_isDigit 3 = .ok (.if_icmp .lt 13, 3) := by decide +kernel
theorem dX13_isDigit_6 : decode cX13_isDigit 6 = .ok (.iload_n 0, 1) := by decide +kernel
theorem dX13_isDigit_7 : decode cX13_isDigit 7 = .ok (.bipush 57, 2) := by decide +kernel
theorem dX13_isDigit_9 : decode cX13_isDigit 9 = .ok (.if_icmp .gt 7, 3) := by decide +kernel
theorem dX13_isDigit_12 : decode cX13_isDigit 12 = .ok (.iconst 1, 1) := by decide +kernel
theorem dX13_isDigit_13 : decode cX13_isDigit 13 = .ok (.goto 4, 3) := by decide +kernel
theorem dX13_isDigit_16 : decode cX13_isDigit 16 = .ok (.iconst 0, 1) := by decide +kernel
theorem dX13_isDigit_17 : decode cX13_isDigit 17 = .ok (.ireturn, 1) := by decide +kernel
set_option maxHeartbeats 4000000 in
set_option maxRecDepth 100000 in
theorem S_X13_isDigit (l : Launch) (D : va_G)  (p0 : Int32) (s0 : Int) (e0 : p0.toInt = s0) (sz : Nat) : Ki l yX13_isDigit wsX13_isDigit 1 40 0 0 D [.int p0] [] [] sz (fun (r : Int32) (_ : Unit) => ((r = 1 ∧ (48 ≤ s0 ∧ s0 ≤ 57)) ∨ (r = 0 ∧ (s0 < 48 ∨ 57 < s0)))) (fun (_ : Unit) => []) (fun _ => []) := by
  unfold Ki
  refine g_ofW (cc := cX13_isDigit) (lv := [(0, .int p0)]) (by decide) rfl (Nat.le_of_ble_eq_true rfl) rfl ?_
  intro p e s m args below meth c A Q hA hQ F hr hnm
  have hts := F.2.2.2.2.1
  have rg0 : -2147483648 ≤ s0 ∧ s0 ≤ 2147483647 := e0 ▸ ti_rng p0
  refine g_iload_n F 0 dX13_isDigit_0 rfl rfl ?_
  refine g_bipush F 48 dX13_isDigit_1 (by decide) ?_
  refine v_icmp_lt F 16 dX13_isDigit_3 (by decide) s0 48 e0 rfl (fun c1 => ?_) (fun c1 => ?_)
  · refine g_iconst F 0 dX13_isDigit_16 (by decide) ?_
    exact u_zret F hA hQ hr rfl () ((Or.inr (⟨rfl, by first | trivial | omega⟩))) rfl rfl dX13_isDigit_17
  · refine g_iload_n F 0 dX13_isDigit_6 rfl rfl ?_
    refine g_bipush F 57 dX13_isDigit_7 (by decide) ?_
    refine v_icmp_gt F 16 dX13_isDigit_9 (by decide) s0 57 e0 rfl (fun c2 => ?_) (fun c2 => ?_)
    · refine g_iconst F 0 dX13_isDigit_16 (by decide) ?_
      exact u_zret F hA hQ hr rfl () ((Or.inr (⟨rfl, by first | trivial | omega⟩))) rfl rfl dX13_isDigit_17
    · refine g_iconst F 1 dX13_isDigit_12 (by decide) ?_
      refine g_goto F 17 dX13_isDigit_13 (by decide) ?_
      exact u_zret F hA hQ hr rfl () ((Or.inl (⟨rfl, by first | trivial | omega⟩))) rfl rfl dX13_isDigit_17

theorem dX13_isRing_0 : decode cX13_isRing 0 = .ok (.iload_n 1, 1) := by decide +kernel
theorem dX13_isRing_1 : decode cX13_isRing 1 = .ok (.i2l, 1) := by decide +kernel
theorem dX13_isRing_2 : decode cX13_isRing 2 = .ok (.lconst 0, 1) := by decide +kernel
theorem dX13_isRing_3 : decode cX13_isRing 3 = .ok (.aload_n 0, 1) := by decide +kernel
theorem dX13_isRing_4 : decode cX13_isRing 4 = .ok (.getfield 199, 3) := by decide +kernel
theorem dX13_isRing_7 : decode cX13_isRing 7 = .ok (.iconst 1, 1) := by decide +kernel
theorem dX13_isRing_8 : decode cX13_isRing 8 = .ok (.iaload, 1) := by decide +kernel
theorem dX13_isRing_9 : decode cX13_isRing 9 = .ok (.i2l, 1) := by decide +kernel
theorem dX13_isRing_10 : decode cX13_isRing 10 = .ok (.lconst 1, 1) := by decide +kernel
theorem dX13_isRing_11 : decode cX13_isRing 11 = .ok (.lsub, 1) := by decide +kernel
theorem dX13_isRing_12 : decode cX13_isRing 12 = .ok (.invokestatic 61, 3) := by decide +kernel
theorem dX13_isRing_15 : decode cX13_isRing 15 = .ok (.ireturn, 1) := by decide +kernel
set_option maxRecDepth 20000 in
theorem ggX13_isRing_X13_in : GoodIn wsX13_isRing wsX13_in := goodIn_r _ [5] rfl (by decide +kernel)
set_option maxRecDepth 20000 in
theorem gX13_isRing_X13_in : GoodIn wsX13_isRing (va_wsS RX13 61 yX13_in wsX13_in) := goodIn_app (goodIn_of _ (by decide +kernel)) ggX13_isRing_X13_in
set_option maxHeartbeats 4000000 in
set_option maxRecDepth 100000 in
theorem S_X13_isRing (l : Launch) (D : va_G) (K : Nat → ClassId) (a : Nat → Nat) (G : gS) (p0 : Int32) (s0 : Int) (e0 : p0.toInt = s0) (hI : yI G) (sz : Nat) : Ki l yX13_isRing wsX13_isRing 2 65 0 0 D [.ref (a 0), .int p0] (yW K a G) (tK K) sz (fun (r : Int32) (_ : Unit) => ((r = 1 ∧ (0 ≤ s0 ∧ s0 < (G 3 1).toInt)) ∨ (r = 0 ∧ (s0 < 0 ∨ (G 3 1).toInt ≤ s0)))) (fun (_ : Unit) => (yW K a G)) (fun _ => (tK K)) := by
  unfold Ki
  refine g_ofW (cc := cX13_isRing) (lv := [(0, .ref (a 0)), (1, .int p0)]) (by decide) rfl (Nat.le_of_ble_eq_true rfl) rfl ?_
  intro p e s m args below meth c A Q hA hQ F hr hnm
  have hts := F.2.2.2.2.1
  have w_0 : (Cond.fieldLink RX13 199 "QuietCutModel" "rule" "[I").before args s = true := hts _ (List.mem_of_getElem? (i := 1) rfl)
  have i_X13 : ∀ w ∈ u_ws RX13 TX13 73, w ∈ wsX13_isRing := fun _ h => List.mem_cons_of_mem _ (List.mem_append_right _ h)
  have rg0 : -2147483648 ≤ s0 ∧ s0 ≤ 2147483647 := e0 ▸ ti_rng p0
  have b1 : (1 : Int) ≤ (G 3 1).toInt ∧ (G 3 1).toInt ≤ 6 := hI 3 1
  refine g_iload_n F 1 dX13_isRing_0 rfl rfl ?_
  refine g_i2l F dX13_isRing_1 ?_
  refine g_lconst F 0 dX13_isRing_2 (by decide) ?_
  refine g_aload_n F 0 dX13_isRing_3 rfl rfl ?_
  refine yg_0_10 F i_X13 w_0 dX13_isRing_4 ?_
  refine g_iconst F 1 dX13_isRing_7 (by decide) ?_
  refine u1_iald F 3 0 yc_3 rfl 1 rfl (by decide) (by decide) dX13_isRing_8 (G 3 1) (rfl) ?_
  refine g_i2l F dX13_isRing_9 ?_
  refine g_lconst F 1 dX13_isRing_10 (by decide) ?_
  refine g_lsub F dX13_isRing_11 ?_
  refine u_call0 (k := 0) (n := 0) (As := [.long (Int32.toInt64 p0), .long 0, .long ((Int32.toInt64 (G 3 1)) - 1)]) (st := []) F (fun sz => S_X13_in l D (Int32.toInt64 p0) s0 0 0 ((Int32.toInt64 (G 3 1)) - 1) ((G 3 1).toInt - 1) (ti_i2l e0) rfl (ti_subL (ti_i2l rfl) rfl (by omega) (by omega)) sz) (va_cwS 3 hts gX13_isRing_X13_in rfl rfl rfl (by decide +kernel) ⟨Nat.le_of_ble_eq_true rfl, Nat.le_of_ble_eq_true rfl⟩) rfl (Nat.le_of_ble_eq_true rfl) ⟨Nat.zero_le _, Nat.zero_le _⟩ dX13_isRing_12 (fun r2 _ hw3 => ?_)
  rcases hw3 with ⟨rfl, q5⟩ | ⟨rfl, q6⟩
  · exact u_zret F hA hQ hr rfl () ((Or.inl (⟨rfl, by first | trivial | omega⟩))) rfl rfl dX13_isRing_15
  · exact u_zret F hA hQ hr rfl () ((Or.inr (⟨rfl, by first | trivial | omega⟩))) rfl rfl dX13_isRing_15

theorem dX13_isPlace_0 : decode cX13_isPlace 0 = .ok (.aload_n 0, 1) := by decide +kernel
theorem dX13_isPlace_1 : decode cX13_isPlace 1 = .ok (.iload_n 1, 1) := by decide +kernel
theorem dX13_isPlace_2 : decode cX13_isPlace 2 = .ok (.invokevirtual 367, 3) := by decide +kernel
theorem dX13_isPlace_5 : decode cX13_isPlace 5 = .ok (.ifCond .eq 25, 3) := by decide +kernel
theorem dX13_isPlace_8 : decode cX13_isPlace 8 = .ok (.iload_n 2, 1) := by decide +kernel
theorem dX13_isPlace_9 : decode cX13_isPlace 9 = .ok (.i2l, 1) := by decide +kernel
theorem dX13_isPlace_10 : decode cX13_isPlace 10 = .ok (.lconst 0, 1) := by decide +kernel
theorem dX13_isPlace_11 : decode cX13_isPlace 11 = .ok (.aload_n 0, 1) := by decide +kernel
theorem dX13_isPlace_12 : decode cX13_isPlace 12 = .ok (.getfield 199, 3) := by decide +kernel
theorem dX13_isPlace_15 : decode cX13_isPlace 15 = .ok (.iconst 0, 1) := by decide +kernel
theorem dX13_isPlace_16 : decode cX13_isPlace 16 = .ok (.iaload, 1) := by decide +kernel
theorem dX13_isPlace_17 : decode cX13_isPlace 17 = .ok (.i2l, 1) := by decide +kernel
theorem dX13_isPlace_18 : decode cX13_isPlace 18 = .ok (.lconst 1, 1) := by decide +kernel
theorem dX13_isPlace_19 : decode cX13_isPlace 19 = .ok (.lsub, 1) := by decide +kernel
theorem dX13_isPlace_20 : decode cX13_isPlace 20 = .ok (.invokestatic 61, 3) := by decide +kernel
theorem dX13_isPlace_23 : decode cX13_isPlace 23 = .ok (.ifCond .eq 7, 3) := by decide +kernel
theorem dX13_isPlace_26 : decode cX13_isPlace 26 = .ok (.iconst 1, 1) := by decide +kernel
theorem dX13_isPlace_27 : decode cX13_isPlace 27 = .ok (.goto 4, 3) := by decide +kernel
theorem dX13_isPlace_30 : decode cX13_isPlace 30 = .ok (.iconst 0, 1) := by decide +kernel
theorem dX13_isPlace_31 : decode cX13_isPlace 31 = .ok (.ireturn, 1) := by decide +kernel
set_option maxRecDepth 20000 in
theorem ggX13_isPlace_X13_in : GoodIn wsX13_isPlace wsX13_in := goodIn_r _ [9] rfl (by decide +kernel)
set_option maxRecDepth 20000 in
theorem gX13_isPlace_X13_in : GoodIn wsX13_isPlace (va_wsS RX13 61 yX13_in wsX13_in) := goodIn_app (goodIn_of _ (by decide +kernel)) ggX13_isPlace_X13_in
set_option maxRecDepth 20000 in
theorem ggX13_isPlace_X13_isRing : GoodIn wsX13_isPlace wsX13_isRing := goodIn_r _ [6, 1, 7, 8, 5, 9, 10, 11, 12, 13, 14, 15, 16, 17, 18, 19, 20, 21, 22, 23, 24, 25, 26, 27, 28, 29, 30, 31, 32, 33, 34, 35, 36, 37, 38, 39, 40, 41, 42, 43, 44, 45, 46, 47, 48, 49, 50, 51, 52, 53, 54, 55, 56, 57, 58, 59, 60, 61, 62, 63, 64, 65, 66, 67, 68, 69, 70, 71, 72, 73, 74, 75, 76, 77, 78, 79, 80, 81, 82] rfl (by decide +kernel)
set_option maxRecDepth 20000 in
theorem gX13_isPlace_X13_isRing : GoodIn wsX13_isPlace (wsV RX13 367 RX13 yX13_isRing wsX13_isRing) := goodIn_app (goodIn_of _ (by decide +kernel)) ggX13_isPlace_X13_isRing
set_option maxHeartbeats 4000000 in
set_option maxRecDepth 100000 in
theorem S_X13_isPlace (l : Launch) (D : va_G) (K : Nat → ClassId) (a : Nat → Nat) (G : gS) (p0 : Int32) (s0 : Int) (p1 : Int32) (s1 : Int) (e0 : p0.toInt = s0) (e1 : p1.toInt = s1) (hI : yI G) (sz : Nat) : Ki l yX13_isPlace wsX13_isPlace 3 86 0 0 D [.ref (a 0), .int p0, .int p1] (yW K a G) (tK K) sz (fun (r : Int32) (_ : Unit) => ((r = 1 ∧ (0 ≤ s0 ∧ s0 < (G 3 1).toInt ∧ 0 ≤ s1 ∧ s1 < (G 3 0).toInt)) ∨ (r = 0 ∧ ¬ (0 ≤ s0 ∧ s0 < (G 3 1).toInt ∧ 0 ≤ s1 ∧ s1 < (G 3 0).toInt)))) (fun (_ : Unit) => (yW K a G)) (fun _ => (tK K)) := by
  unfold Ki
  refine g_ofW (cc := cX13_isPlace) (lv := [(0, .ref (a 0)), (1, .int p0), (2, .int p1)]) (by decide) rfl (Nat.le_of_ble_eq_true rfl) rfl ?_
  intro p e s m args below meth c A Q hA hQ F hr hnm
  have hts := F.2.2.2.2.1
  have w_0 : (Cond.fieldLink RX13 199 "QuietCutModel" "rule" "[I").before args s = true := hts _ (List.mem_of_getElem? (i := 1) rfl)
  have i_X13 : ∀ w ∈ u_ws RX13 TX13 73, w ∈ wsX13_isPlace := fun _ h => List.mem_cons_of_mem _ (List.mem_append_right _ h)
  have rg0 : -2147483648 ≤ s0 ∧ s0 ≤ 2147483647 := e0 ▸ ti_rng p0
  have rg1 : -2147483648 ≤ s1 ∧ s1 ≤ 2147483647 := e1 ▸ ti_rng p1
  have b1 : (4 : Int) ≤ (G 3 0).toInt ∧ (G 3 0).toInt ≤ 16 := hI 3 0
  have b2 : (1 : Int) ≤ (G 3 1).toInt ∧ (G 3 1).toInt ≤ 6 := hI 3 1
  refine g_aload_n F 0 dX13_isPlace_0 rfl rfl ?_
  refine g_iload_n F 1 dX13_isPlace_1 rfl rfl ?_
  refine u_callVi (k := 0) (n := 0) (b := a 0) (As := [.int p0]) (st := []) F (fun sz => S_X13_isRing l D K a G p0 s0 e0 hI sz) (cwV 1 hts gX13_isPlace_X13_isRing rfl rfl rfl (by decide +kernel) ⟨Nat.le_of_ble_eq_true rfl, Nat.le_of_ble_eq_true rfl⟩) rfl 0 yc_0 rfl (Nat.le_of_ble_eq_true rfl) ⟨Nat.zero_le _, Nat.zero_le _⟩ dX13_isPlace_2 (fun r3 _ hw4 => ?_)
  rcases hw4 with ⟨rfl, q6⟩ | ⟨rfl, q7⟩
  · have q6 : (0 ≤ s0 ∧ s0 < (G 3 1).toInt) := q6
    refine v_if_eq F 30 dX13_isPlace_5 (by decide) 1 rfl (fun c8 => absurd c8 (by decide)) (fun c8 => ?_)
    refine g_iload_n F 2 dX13_isPlace_8 rfl rfl ?_
    refine g_i2l F dX13_isPlace_9 ?_
    refine g_lconst F 0 dX13_isPlace_10 (by decide) ?_
    refine g_aload_n F 0 dX13_isPlace_11 rfl rfl ?_
    refine yg_0_10 F i_X13 w_0 dX13_isPlace_12 ?_
    refine g_iconst F 0 dX13_isPlace_15 (by decide) ?_
    refine u1_iald F 3 0 yc_3 rfl 0 rfl (by decide) (by decide) dX13_isPlace_16 (G 3 0) (rfl) ?_
    refine g_i2l F dX13_isPlace_17 ?_
    refine g_lconst F 1 dX13_isPlace_18 (by decide) ?_
    refine g_lsub F dX13_isPlace_19 ?_
    refine u_call0 (k := 0) (n := 0) (As := [.long (Int32.toInt64 p1), .long 0, .long ((Int32.toInt64 (G 3 0)) - 1)]) (st := []) F (fun sz => S_X13_in l D (Int32.toInt64 p1) s1 0 0 ((Int32.toInt64 (G 3 0)) - 1) ((G 3 0).toInt - 1) (ti_i2l e1) rfl (ti_subL (ti_i2l rfl) rfl (by omega) (by omega)) sz) (va_cwS 3 hts gX13_isPlace_X13_in rfl rfl rfl (by decide +kernel) ⟨Nat.le_of_ble_eq_true rfl, Nat.le_of_ble_eq_true rfl⟩) rfl (Nat.le_of_ble_eq_true rfl) ⟨Nat.zero_le _, Nat.zero_le _⟩ dX13_isPlace_20 (fun r9 _ hw10 => ?_)
    rcases hw10 with ⟨rfl, q12⟩ | ⟨rfl, q13⟩
    · refine v_if_eq F 30 dX13_isPlace_23 (by decide) 1 rfl (fun c14 => absurd c14 (by decide)) (fun c14 => ?_)
      refine g_iconst F 1 dX13_isPlace_26 (by decide) ?_
      refine g_goto F 31 dX13_isPlace_27 (by decide) ?_
      exact u_zret F hA hQ hr rfl () ((Or.inl (⟨rfl, by first | trivial | omega⟩))) rfl rfl dX13_isPlace_31
    · refine v_if_eq F 30 dX13_isPlace_23 (by decide) 0 rfl (fun c15 => ?_) (fun c15 => absurd c15 (by decide))
      refine g_iconst F 0 dX13_isPlace_30 (by decide) ?_
      exact u_zret F hA hQ hr rfl () ((Or.inr (⟨rfl, by first | trivial | omega⟩))) rfl rfl dX13_isPlace_31
  · have q7 : (s0 < 0 ∨ (G 3 1).toInt ≤ s0) := q7
    refine v_if_eq F 30 dX13_isPlace_5 (by decide) 0 rfl (fun c16 => ?_) (fun c16 => absurd c16 (by decide))
    refine g_iconst F 0 dX13_isPlace_30 (by decide) ?_
    exact u_zret F hA hQ hr rfl () ((Or.inr (⟨rfl, by first | trivial | omega⟩))) rfl rfl dX13_isPlace_31

theorem dX13_isPass_0 : decode cX13_isPass 0 = .ok (.aload_n 0, 1) := by decide +kernel
theorem dX13_isPass_1 : decode cX13_isPass 1 = .ok (.iload_n 1, 1) := by decide +kernel
theorem dX13_isPass_2 : decode cX13_isPass 2 = .ok (.invokevirtual 367, 3) := by decide +kernel
theorem dX13_isPass_5 : decode cX13_isPass 5 = .ok (.ifCond .eq 44, 3) := by decide +kernel
theorem dX13_isPass_8 : decode cX13_isPass 8 = .ok (.iload_n 2, 1) := by decide +kernel
theorem dX13_isPass_9 : decode cX13_isPass 9 = .ok (.i2l, 1) := by decide +kernel
theorem dX13_isPass_10 : decode cX13_isPass 10 = .ok (.lconst 1, 1) := by decide +kernel
theorem dX13_isPass_11 : decode cX13_isPass 11 = .ok (.ldc2_w 422, 3) := by decide +kernel
theorem dX13_isPass_14 : decode cX13_isPass 14 = .ok (.invokestatic 61, 3) := by decide +kernel
theorem dX13_isPass_17 : decode cX13_isPass 17 = .ok (.ifCond .eq 32, 3) := by decide +kernel
theorem dX13_isPass_20 : decode cX13_isPass 20 = .ok (.iload_n 3, 1) := by decide +kernel
theorem dX13_isPass_21 : decode cX13_isPass 21 = .ok (.i2l, 1) := by decide +kernel
theorem dX13_isPass_22 : decode cX13_isPass 22 = .ok (.lconst 1, 1) := by decide +kernel
theorem dX13_isPass_23 : decode cX13_isPass 23 = .ok (.ldc2_w 352, 3) := by decide +kernel
theorem dX13_isPass_26 : decode cX13_isPass 26 = .ok (.invokestatic 61, 3) := by decide +kernel
theorem dX13_isPass_29 : decode cX13_isPass 29 = .ok (.ifCond .eq 20, 3) := by decide +kernel
theorem dX13_isPass_32 : decode cX13_isPass 32 = .ok (.iload 4, 2) := by decide +kernel
theorem dX13_isPass_34 : decode cX13_isPass 34 = .ok (.i2l, 1) := by decide +kernel
theorem dX13_isPass_35 : decode cX13_isPass 35 = .ok (.lconst 1, 1) := by decide +kernel
theorem dX13_isPass_36 : decode cX13_isPass 36 = .ok (.ldc2_w 424, 3) := by decide +kernel
theorem dX13_isPass_39 : decode cX13_isPass 39 = .ok (.invokestatic 61, 3) := by decide +kernel
theorem dX13_isPass_42 : decode cX13_isPass 42 = .ok (.ifCond .eq 7, 3) := by decide +kernel
theorem dX13_isPass_45 : decode cX13_isPass 45 = .ok (.iconst 1, 1) := by decide +kernel
theorem dX13_isPass_46 : decode cX13_isPass 46 = .ok (.goto 4, 3) := by decide +kernel
theorem dX13_isPass_49 : decode cX13_isPass 49 = .ok (.iconst 0, 1) := by decide +kernel
theorem dX13_isPass_50 : decode cX13_isPass 50 = .ok (.ireturn, 1) := by decide +kernel
set_option maxRecDepth 20000 in
theorem ggX13_isPass_X13_in : GoodIn wsX13_isPass wsX13_in := goodIn_r _ [12] rfl (by decide +kernel)
set_option maxRecDepth 20000 in
theorem gX13_isPass_X13_in : GoodIn wsX13_isPass (va_wsS RX13 61 yX13_in wsX13_in) := goodIn_app (goodIn_of _ (by decide +kernel)) ggX13_isPass_X13_in
set_option maxRecDepth 20000 in
theorem ggX13_isPass_X13_isRing : GoodIn wsX13_isPass wsX13_isRing := goodIn_r _ [8, 9, 10, 11, 7, 12, 13, 14, 15, 16, 17, 18, 19, 20, 21, 22, 23, 24, 25, 26, 27, 28, 29, 30, 31, 32, 33, 34, 35, 36, 37, 38, 39, 40, 41, 42, 43, 44, 45, 46, 47, 48, 49, 50, 51, 52, 53, 54, 55, 56, 57, 58, 59, 60, 61, 62, 63, 64, 65, 66, 67, 68, 69, 70, 71, 72, 73, 74, 75, 76, 77, 78, 79, 80, 81, 82, 83, 84, 85] rfl (by decide +kernel)
set_option maxRecDepth 20000 in
theorem gX13_isPass_X13_isRing : GoodIn wsX13_isPass (wsV RX13 367 RX13 yX13_isRing wsX13_isRing) := goodIn_app (goodIn_of _ (by decide +kernel)) ggX13_isPass_X13_isRing
set_option maxHeartbeats 4000000 in
set_option maxRecDepth 100000 in
theorem S_X13_isPass (l : Launch) (D : va_G) (K : Nat → ClassId) (a : Nat → Nat) (G : gS) (p0 : Int32) (s0 : Int) (p1 : Int32) (s1 : Int) (p2 : Int32) (s2 : Int) (p3 : Int32) (s3 : Int) (e0 : p0.toInt = s0) (e1 : p1.toInt = s1) (e2 : p2.toInt = s2) (e3 : p3.toInt = s3) (hI : yI G) (sz : Nat) : Ki l yX13_isPass wsX13_isPass 3 86 0 0 D [.ref (a 0), .int p0, .int p1, .int p2, .int p3] (yW K a G) (tK K) sz (fun (r : Int32) (_ : Unit) => ((r = 1 ∧ (0 ≤ s0 ∧ s0 < (G 3 1).toInt ∧ 1 ≤ s1 ∧ s1 ≤ 9 ∧ 1 ≤ s2 ∧ s2 ≤ 20 ∧ 1 ≤ s3 ∧ s3 ≤ 12)) ∨ (r = 0 ∧ ¬ (0 ≤ s0 ∧ s0 < (G 3 1).toInt ∧ 1 ≤ s1 ∧ s1 ≤ 9 ∧ 1 ≤ s2 ∧ s2 ≤ 20 ∧ 1 ≤ s3 ∧ s3 ≤ 12)))) (fun (_ : Unit) => (yW K a G)) (fun _ => (tK K)) := by
  unfold Ki
  refine g_ofW (cc := cX13_isPass) (lv := [(0, .ref (a 0)), (1, .int p0), (2, .int p1), (3, .int p2), (4, .int p3)]) (by decide) rfl (Nat.le_of_ble_eq_true rfl) rfl ?_
  intro p e s m args below meth c A Q hA hQ F hr hnm
  have hts := F.2.2.2.2.1
  have w_0 : (Cond.constantLong RX13 422 (9)).before args s = true := hts _ (List.mem_of_getElem? (i := 1) rfl)
  have w_1 : (Cond.constantLong RX13 352 (20)).before args s = true := hts _ (List.mem_of_getElem? (i := 2) rfl)
  have w_2 : (Cond.constantLong RX13 424 (12)).before args s = true := hts _ (List.mem_of_getElem? (i := 3) rfl)
  have rg0 : -2147483648 ≤ s0 ∧ s0 ≤ 2147483647 := e0 ▸ ti_rng p0
  have rg1 : -2147483648 ≤ s1 ∧ s1 ≤ 2147483647 := e1 ▸ ti_rng p1
  have rg2 : -2147483648 ≤ s2 ∧ s2 ≤ 2147483647 := e2 ▸ ti_rng p2
  have rg3 : -2147483648 ≤ s3 ∧ s3 ≤ 2147483647 := e3 ▸ ti_rng p3
  have b1 : (1 : Int) ≤ (G 3 1).toInt ∧ (G 3 1).toInt ≤ 6 := hI 3 1
  refine g_aload_n F 0 dX13_isPass_0 rfl rfl ?_
  refine g_iload_n F 1 dX13_isPass_1 rfl rfl ?_
  refine u_callVi (k := 0) (n := 0) (b := a 0) (As := [.int p0]) (st := []) F (fun sz => S_X13_isRing l D K a G p0 s0 e0 hI sz) (cwV 1 hts gX13_isPass_X13_isRing rfl rfl rfl (by decide +kernel) ⟨Nat.le_of_ble_eq_true rfl, Nat.le_of_ble_eq_true rfl⟩) rfl 0 yc_0 rfl (Nat.le_of_ble_eq_true rfl) ⟨Nat.zero_le _, Nat.zero_le _⟩ dX13_isPass_2 (fun r2 _ hw3 => ?_)
  rcases hw3 with ⟨rfl, q5⟩ | ⟨rfl, q6⟩
  · have q5 : (0 ≤ s0 ∧ s0 < (G 3 1).toInt) := q5
    refine v_if_eq F 49 dX13_isPass_5 (by decide) 1 rfl (fun c7 => absurd c7 (by decide)) (fun c7 => ?_)
    refine g_iload_n F 2 dX13_isPass_8 rfl rfl ?_
    refine g_i2l F dX13_isPass_9 ?_
    refine g_lconst F 1 dX13_isPass_10 (by decide) ?_
    refine g_ldc2 F w_0 dX13_isPass_11 ?_
    refine u_call0 (k := 0) (n := 0) (As := [.long (Int32.toInt64 p1), .long 1, .long 9]) (st := []) F (fun sz => S_X13_in l D (Int32.toInt64 p1) s1 1 1 9 9 (ti_i2l e1) rfl rfl sz) (va_cwS 3 hts gX13_isPass_X13_in rfl rfl rfl (by decide +kernel) ⟨Nat.le_of_ble_eq_true rfl, Nat.le_of_ble_eq_true rfl⟩) rfl (Nat.le_of_ble_eq_true rfl) ⟨Nat.zero_le _, Nat.zero_le _⟩ dX13_isPass_14 (fun r8 _ hw9 => ?_)
    rcases hw9 with ⟨rfl, q11⟩ | ⟨rfl, q12⟩
    · refine v_if_eq F 49 dX13_isPass_17 (by decide) 1 rfl (fun c13 => absurd c13 (by decide)) (fun c13 => ?_)
      refine g_iload_n F 3 dX13_isPass_20 rfl rfl ?_
      refine g_i2l F dX13_isPass_21 ?_
      refine g_lconst F 1 dX13_isPass_22 (by decide) ?_
      refine g_ldc2 F w_1 dX13_isPass_23 ?_
      refine u_call0 (k := 0) (n := 0) (As := [.long (Int32.toInt64 p2), .long 1, .long 20]) (st := []) F (fun sz => S_X13_in l D (Int32.toInt64 p2) s2 1 1 20 20 (ti_i2l e2) rfl rfl sz) (va_cwS 3 hts gX13_isPass_X13_in rfl rfl rfl (by decide +kernel) ⟨Nat.le_of_ble_eq_true rfl, Nat.le_of_ble_eq_true rfl⟩) rfl (Nat.le_of_ble_eq_true rfl) ⟨Nat.zero_le _, Nat.zero_le _⟩ dX13_isPass_26 (fun r14 _ hw15 => ?_)
      rcases hw15 with ⟨rfl, q17⟩ | ⟨rfl, q18⟩
      · refine v_if_eq F 49 dX13_isPass_29 (by decide) 1 rfl (fun c19 => absurd c19 (by decide)) (fun c19 => ?_)
        refine g_iload F 4 dX13_isPass_32 rfl ?_
        refine g_i2l F dX13_isPass_34 ?_
        refine g_lconst F 1 dX13_isPass_35 (by decide) ?_
        refine g_ldc2 F w_2 dX13_isPass_36 ?_
        refine u_call0 (k := 0) (n := 0) (As := [.long (Int32.toInt64 p3), .long 1, .long 12]) (st := []) F (fun sz => S_X13_in l D (Int32.toInt64 p3) s3 1 1 12 12 (ti_i2l e3) rfl rfl sz) (va_cwS 3 hts gX13_isPass_X13_in rfl rfl rfl (by decide +kernel) ⟨Nat.le_of_ble_eq_true rfl, Nat.le_of_ble_eq_true rfl⟩) rfl (Nat.le_of_ble_eq_true rfl) ⟨Nat.zero_le _, Nat.zero_le _⟩ dX13_isPass_39 (fun r20 _ hw21 => ?_)
        rcases hw21 with ⟨rfl, q23⟩ | ⟨rfl, q24⟩
        · refine v_if_eq F 49 dX13_isPass_42 (by decide) 1 rfl (fun c25 => absurd c25 (by decide)) (fun c25 => ?_)
          refine g_iconst F 1 dX13_isPass_45 (by decide) ?_
          refine g_goto F 50 dX13_isPass_46 (by decide) ?_
          exact u_zret F hA hQ hr rfl () ((Or.inl (⟨rfl, by first | trivial | omega⟩))) rfl rfl dX13_isPass_50
        · refine v_if_eq F 49 dX13_isPass_42 (by decide) 0 rfl (fun c26 => ?_) (fun c26 => absurd c26 (by decide))
          refine g_iconst F 0 dX13_isPass_49 (by decide) ?_
          exact u_zret F hA hQ hr rfl () ((Or.inr (⟨rfl, by first | trivial | omega⟩))) rfl rfl dX13_isPass_50
      · refine v_if_eq F 49 dX13_isPass_29 (by decide) 0 rfl (fun c27 => ?_) (fun c27 => absurd c27 (by decide))
        refine g_iconst F 0 dX13_isPass_49 (by decide) ?_
        exact u_zret F hA hQ hr rfl () ((Or.inr (⟨rfl, by first | trivial | omega⟩))) rfl rfl dX13_isPass_50
    · refine v_if_eq F 49 dX13_isPass_17 (by decide) 0 rfl (fun c28 => ?_) (fun c28 => absurd c28 (by decide))
      refine g_iconst F 0 dX13_isPass_49 (by decide) ?_
      exact u_zret F hA hQ hr rfl () ((Or.inr (⟨rfl, by first | trivial | omega⟩))) rfl rfl dX13_isPass_50
  · have q6 : (s0 < 0 ∨ (G 3 1).toInt ≤ s0) := q6
    refine v_if_eq F 49 dX13_isPass_5 (by decide) 0 rfl (fun c29 => ?_) (fun c29 => absurd c29 (by decide))
    refine g_iconst F 0 dX13_isPass_49 (by decide) ?_
    exact u_zret F hA hQ hr rfl () ((Or.inr (⟨rfl, by first | trivial | omega⟩))) rfl rfl dX13_isPass_50

theorem dX13_lay_0 : decode cX13_lay 0 = .ok (.bipush 24, 2) := by decide +kernel
theorem dX13_lay_2 : decode cX13_lay 2 = .ok (.istore_n 2, 1) := by decide +kernel
theorem dX13_lay_3 : decode cX13_lay 3 = .ok (.iload_n 2, 1) := by decide +kernel
theorem dX13_lay_4 : decode cX13_lay 4 = .ok (.ifCond .lt 32, 3) := by decide +kernel
theorem dX13_lay_7 : decode cX13_lay 7 = .ok (.aload_n 0, 1) := by decide +kernel
theorem dX13_lay_8 : decode cX13_lay 8 = .ok (.getfield 20, 3) := by decide +kernel
theorem dX13_lay_11 : decode cX13_lay 11 = .ok (.aload_n 0, 1) := by decide +kernel
theorem dX13_lay_12 : decode cX13_lay 12 = .ok (.getfield 73, 3) := by decide +kernel
theorem dX13_lay_15 : decode cX13_lay 15 = .ok (.iload_n 1, 1) := by decide +kernel
theorem dX13_lay_16 : decode cX13_lay 16 = .ok (.iload_n 2, 1) := by decide +kernel
theorem dX13_lay_17 : decode cX13_lay 17 = .ok (.ishr, 1) := by decide +kernel
theorem dX13_lay_18 : decode cX13_lay 18 = .ok (.i2b, 1) := by decide +kernel
theorem dX13_lay_19 : decode cX13_lay 19 = .ok (.bastore, 1) := by decide +kernel
theorem dX13_lay_20 : decode cX13_lay 20 = .ok (.aload_n 0, 1) := by decide +kernel
theorem dX13_lay_21 : decode cX13_lay 21 = .ok (.dup, 1) := by decide +kernel
theorem dX13_lay_22 : decode cX13_lay 22 = .ok (.getfield 73, 3) := by decide +kernel
theorem dX13_lay_25 : decode cX13_lay 25 = .ok (.iconst 1, 1) := by decide +kernel
theorem dX13_lay_26 : decode cX13_lay 26 = .ok (.iadd, 1) := by decide +kernel
theorem dX13_lay_27 : decode cX13_lay 27 = .ok (.putfield 73, 3) := by decide +kernel
theorem dX13_lay_30 : decode cX13_lay 30 = .ok (.iinc 2 (-8), 3) := by decide +kernel
theorem dX13_lay_33 : decode cX13_lay 33 = .ok (.goto (-30), 3) := by decide +kernel
theorem dX13_lay_36 : decode cX13_lay 36 = .ok (.return_, 1) := by decide +kernel
set_option maxHeartbeats 4000000 in
set_option maxRecDepth 100000 in
theorem S_X13_lay (l : Launch) (D : va_G) (K : Nat → ClassId) (a : Nat → Nat) (G : gS) (p0 : Int32) (s0 : Int) (e0 : p0.toInt = s0) (lt : ((G 0 2).toInt ≤ 996)) (hI : yI G) (sz : Nat) : Kv l yX13_lay wsX13_lay 1 40 0 0 D [.ref (a 0), .int p0] (yW K a G) (tK K) sz (fun (G' : gS) => (yI G') ∧ (gu_un ycd [3, 200] G G') ∧ (((G' 0 2).toInt = (G 0 2).toInt + 4)) ∧ (tLay (G 2) (G' 2) (G 0 2).toInt p0 4)) (fun (G' : gS) => (yW K a G')) (fun _ => (tK K)) := by
  unfold Kv
  refine g_ofW (cc := cX13_lay) (lv := [(0, .ref (a 0)), (1, .int p0)]) (by decide) rfl (Nat.le_of_ble_eq_true rfl) rfl ?_
  intro p e s m args below meth c A Q hA hQ F hr hnm
  have hts := F.2.2.2.2.1
  have w_0 : (Cond.fieldLink RX13 20 "QuietCutModel" "tape" "[B").before args s = true := hts _ (List.mem_of_getElem? (i := 1) rfl)
  have i_X13 : ∀ w ∈ u_ws RX13 TX13 73, w ∈ wsX13_lay := fun _ h => List.mem_cons_of_mem _ (List.mem_append_right _ h)
  have w_1 : (Cond.fieldLink RX13 73 "QuietCutModel" "taped" "I").before args s = true := hts _ (List.mem_of_getElem? (i := 2) rfl)
  have rg0 : -2147483648 ≤ s0 ∧ s0 ≤ 2147483647 := e0 ▸ ti_rng p0
  have b1 : (0 : Int) ≤ (G 0 2).toInt ∧ (G 0 2).toInt ≤ 1000 := hI 0 2
  have J_3 : ∀ (fuel : Nat) (x3_2 : Int32) (Gj3 : gS), (x3_2.toInt + 2147483648).toNat < fuel → ((-8) ≤ x3_2.toInt ∧ x3_2.toInt ≤ 24) → (yI Gj3) → (gu_un ycd [3, 200] G Gj3) → (8 * (Gj3 0 2).toInt + x3_2.toInt = 8 * (G 0 2).toInt + 24) → (tLay (G 2) (Gj3 2) (G 0 2).toInt p0 ((Gj3 0 2).toInt - (G 0 2).toInt)) → gG p l e (gR 1 0 0 40) s m args below meth c D A 3 Q 0 0 (yW K a Gj3) (tK K) [(0, .ref (a 0)), (1, .int p0), (2, .int x3_2)] 3 [] := by
    intro fuel
    induction fuel with
    | zero => intro x3_2 Gj3 hm; exact absurd hm (Nat.not_lt_zero _)
    | succ fuel_3 ih_3 =>
      intro x3_2 Gj3 hm_3 h3_2 jI3 jU3 hv ly3
      refine g_iload_n F 2 dX13_lay_3 rfl rfl ?_
      refine v_if_lt F 36 dX13_lay_4 (by decide) x3_2.toInt rfl (fun c2 => ?_) (fun c2 => ?_)
      · have b3 : (0 : Int) ≤ (Gj3 0 2).toInt ∧ (Gj3 0 2).toInt ≤ 1000 := jI3 0 2
        exact u_vret F hA hQ hr Gj3 (⟨jI3, (gu_un.tr gu_un.rf (gu_un.su jU3 rfl)), (by show ((Gj3 0 2).toInt = (G 0 2).toInt + 4); (first | omega | (simp only [Int32.reduceToInt, true_and, and_true, ne_eq, not_true_eq_false, false_and, or_false, false_or, true_or, or_true, false_implies] <;> omega))), (by first | (have h9 := ly3; rw [show (Gj3 0 2).toInt - (G 0 2).toInt = 4 by omega] at h9; exact h9) | (exfalso; omega))⟩) rfl rfl dX13_lay_36
      · refine g_aload_n F 0 dX13_lay_7 rfl rfl ?_
        refine yg_0_1 F i_X13 w_0 dX13_lay_8 ?_
        refine g_aload_n F 0 dX13_lay_11 rfl rfl ?_
        refine yg_0_2 F i_X13 w_1 dX13_lay_12 (Gj3 0 2) (rfl) ?_
        refine g_iload_n F 1 dX13_lay_15 rfl rfl ?_
        refine g_iload_n F 2 dX13_lay_16 rfl rfl ?_
        refine g_ishr F dX13_lay_17 ?_
        refine g_i2b F dX13_lay_18 ?_
        have b4 : (0 : Int) ≤ (Gj3 0 2).toInt ∧ (Gj3 0 2).toInt ≤ 1000 := jI3 0 2
        refine u_bast F 2 2 yc_2 rfl (Gj3 0 2).toInt rfl (by omega) (by omega) (yW K a (gu_up Gj3 2 ((Gj3 0 2).toInt).toNat (vp_nar .byte (Int32.toInt8 (p0 >>> (x3_2 &&& 31))).toInt32))) (ys_2 _) dX13_lay_19 ?_
        refine g_aload_n F 0 dX13_lay_20 rfl rfl ?_
        refine g_dup F dX13_lay_21 rfl ?_
        refine yg_0_2 F i_X13 w_1 dX13_lay_22 (Gj3 0 2) (rfl) ?_
        refine g_iconst F 1 dX13_lay_25 (by decide) ?_
        refine u_iadd F dX13_lay_26 (Gj3 0 2).toInt 1 rfl rfl (by omega) (by omega) (fun y5 ey5 => ?_)
        refine yp_0_2 F i_X13 w_1 dX13_lay_27 ?_
        refine u_iinc F (fun v_ => [(2, .int v_), (0, .ref (a 0)), (1, .int p0)]) dX13_lay_30 (j := 2) rfl x3_2.toInt (-8) rfl rfl (by omega) (by omega) (by decide) (fun _ => rfl) (fun y6 ey6 => ?_)
        refine g_goto F 3 dX13_lay_33 (by decide) ?_
        refine g_locals [(0, .ref (a 0)), (1, .int p0), (2, .int y6)] [1, 2, 0] rfl ?_
        exact ih_3 y6 (gu_up (gu_up Gj3 2 ((Gj3 0 2).toInt).toNat (vp_nar .byte (Int32.toInt8 (p0 >>> (x3_2 &&& 31))).toInt32)) 0 2 y5) (by omega) (by have h9 := ti_rng y6; omega) (gu_I.up (j := 0) (k := 2) (v := y5) (gu_I.up (j := 2) (k := ((Gj3 0 2).toInt).toNat) (v := (vp_nar .byte (Int32.toInt8 (p0 >>> (x3_2 &&& 31))).toInt32)) jI3 ((vp_narB _).1) ((vp_narB _).2)) (show (0 : Int) ≤ Int32.toInt y5 by omega) (show Int32.toInt y5 ≤ 1000 by omega)) (gu_un.up (j := 0) (k := 2) (v := y5) (gu_un.up (j := 2) (k := ((Gj3 0 2).toInt).toNat) (v := (vp_nar .byte (Int32.toInt8 (p0 >>> (x3_2 &&& 31))).toInt32)) (gu_un.tr gu_un.rf (gu_un.su jU3 rfl)) (show (200 : Nat) ∈ ([3, 200] : List Nat) by decide)) (show (3 : Nat) ∈ ([3, 200] : List Nat) by decide)) (by have e9_0_2 : (gu_up (gu_up Gj3 2 ((Gj3 0 2).toInt).toNat (vp_nar .byte (Int32.toInt8 (p0 >>> (x3_2 &&& 31))).toInt32)) 0 2 y5) 0 2 = y5 := rfl; (try simp only [e9_0_2, true_and, and_true]) <;> (first | omega | (simp only [Int32.reduceToInt, true_and, and_true, ne_eq, not_true_eq_false, false_and, or_false, false_or, true_or, or_true, false_implies] <;> omega))) (show tLay (G 2) ((gu_up Gj3 2 ((Gj3 0 2).toInt).toNat (vp_nar .byte (Int32.toInt8 (p0 >>> (x3_2 &&& 31))).toInt32)) 2) (G 0 2).toInt p0 (y5.toInt - (G 0 2).toInt) from tLay.step ly3 (by omega) (by omega) (by omega) (by omega) (by omega))
  refine g_bipush F 24 dX13_lay_0 (by decide) ?_
  refine g_istore_n F [(2, .int 24), (0, .ref (a 0)), (1, .int p0)] dX13_lay_2 rfl (by decide) rfl ?_
  refine g_locals [(0, .ref (a 0)), (1, .int p0), (2, .int 24)] [1, 2, 0] rfl ?_
  exact J_3 _ 24 G (Nat.lt_succ_self _) (by decide) hI gu_un.rf (by (first | omega | (simp only [Int32.reduceToInt, true_and, and_true, ne_eq, not_true_eq_false, false_and, or_false, false_or, true_or, or_true, false_implies] <;> omega))) (tLay.at0 (by omega))

theorem dX13_feed_0 : decode cX13_feed 0 = .ok (.aload_n 0, 1) := by decide +kernel
theorem dX13_feed_1 : decode cX13_feed 1 = .ok (.getfield 73, 3) := by decide +kernel
theorem dX13_feed_4 : decode cX13_feed 4 = .ok (.bipush 20, 2) := by decide +kernel
theorem dX13_feed_6 : decode cX13_feed 6 = .ok (.iadd, 1) := by decide +kernel
theorem dX13_feed_7 : decode cX13_feed 7 = .ok (.sipush 1000, 3) := by decide +kernel
theorem dX13_feed_10 : decode cX13_feed 10 = .ok (.if_icmp .le 6, 3) := by decide +kernel
theorem dX13_feed_13 : decode cX13_feed 13 = .ok (.bipush (-3), 2) := by decide +kernel
theorem dX13_feed_15 : decode cX13_feed 15 = .ok (.ireturn, 1) := by decide +kernel
theorem dX13_feed_16 : decode cX13_feed 16 = .ok (.aload_n 0, 1) := by decide +kernel
theorem dX13_feed_17 : decode cX13_feed 17 = .ok (.iload_n 1, 1) := by decide +kernel
theorem dX13_feed_18 : decode cX13_feed 18 = .ok (.invokevirtual 322, 3) := by decide +kernel
theorem dX13_feed_21 : decode cX13_feed 21 = .ok (.aload_n 0, 1) := by decide +kernel
theorem dX13_feed_22 : decode cX13_feed 22 = .ok (.iload_n 2, 1) := by decide +kernel
theorem dX13_feed_23 : decode cX13_feed 23 = .ok (.invokevirtual 322, 3) := by decide +kernel
theorem dX13_feed_26 : decode cX13_feed 26 = .ok (.aload_n 0, 1) := by decide +kernel
theorem dX13_feed_27 : decode cX13_feed 27 = .ok (.iload_n 3, 1) := by decide +kernel
theorem dX13_feed_28 : decode cX13_feed 28 = .ok (.invokevirtual 322, 3) := by decide +kernel
theorem dX13_feed_31 : decode cX13_feed 31 = .ok (.aload_n 0, 1) := by decide +kernel
theorem dX13_feed_32 : decode cX13_feed 32 = .ok (.iload 4, 2) := by decide +kernel
theorem dX13_feed_34 : decode cX13_feed 34 = .ok (.invokevirtual 322, 3) := by decide +kernel
theorem dX13_feed_37 : decode cX13_feed 37 = .ok (.aload_n 0, 1) := by decide +kernel
theorem dX13_feed_38 : decode cX13_feed 38 = .ok (.iload 5, 2) := by decide +kernel
theorem dX13_feed_40 : decode cX13_feed 40 = .ok (.invokevirtual 322, 3) := by decide +kernel
theorem dX13_feed_43 : decode cX13_feed 43 = .ok (.aload_n 0, 1) := by decide +kernel
theorem dX13_feed_44 : decode cX13_feed 44 = .ok (.getfield 73, 3) := by decide +kernel
theorem dX13_feed_47 : decode cX13_feed 47 = .ok (.ireturn, 1) := by decide +kernel
set_option maxRecDepth 20000 in
theorem ggX13_feed_X13_lay : GoodIn wsX13_feed wsX13_lay := goodIn_r _ [6, 7, 1, 8, 9, 10, 11, 12, 13, 14, 15, 16, 17, 18, 19, 20, 21, 22, 23, 24, 25, 26, 27, 28, 29, 30, 31, 32, 33, 34, 35, 36, 37, 38, 39, 40, 41, 42, 43, 44, 45, 46, 47, 48, 49, 50, 51, 52, 53, 54, 55, 56, 57, 58, 59, 60, 61, 62, 63, 64, 65, 66, 67, 68, 69, 70, 71, 72, 73, 74, 75, 76, 77, 78, 79, 80] rfl (by decide +kernel)
set_option maxRecDepth 20000 in
theorem gX13_feed_X13_lay : GoodIn wsX13_feed (wsV RX13 322 RX13 yX13_lay wsX13_lay) := goodIn_app (goodIn_of _ (by decide +kernel)) ggX13_feed_X13_lay
set_option maxHeartbeats 4000000 in
set_option maxRecDepth 100000 in
theorem S_X13_feed (l : Launch) (D : va_G) (K : Nat → ClassId) (a : Nat → Nat) (G : gS) (p0 : Int32) (s0 : Int) (p1 : Int32) (s1 : Int) (p2 : Int32) (s2 : Int) (p3 : Int32) (s3 : Int) (p4 : Int32) (s4 : Int) (e0 : p0.toInt = s0) (e1 : p1.toInt = s1) (e2 : p2.toInt = s2) (e3 : p3.toInt = s3) (e4 : p4.toInt = s4) (hI : yI G) (sz : Nat) : Ki l yX13_feed wsX13_feed 2 62 0 0 D [.ref (a 0), .int p0, .int p1, .int p2, .int p3, .int p4] (yW K a G) (tK K) sz (fun (r : Int32) (G' : gS) => (yI G') ∧ (gu_un ycd [3, 200] G G') ∧ ((-3) ≤ r.toInt ∧ r.toInt ≤ 1000) ∧ (((r.toInt = -3 ∧ 980 < (G 0 2).toInt ∧ (G' 0 2).toInt = (G 0 2).toInt) ∨ (r.toInt = (G 0 2).toInt + 20 ∧ (G 0 2).toInt ≤ 980 ∧ (G' 0 2).toInt = (G 0 2).toInt + 20))) ∧ ((r.toInt = -3 ∧ (∀ i : Nat, (i : Int) < (G 0 2).toInt → G' 2 i = (G 2) i)) ∨ tFd (G 2) (G' 2) (G 0 2).toInt [p0, p1, p2, p3, p4])) (fun (G' : gS) => (yW K a G')) (fun _ => (tK K)) := by
  unfold Ki
  refine g_ofW (cc := cX13_feed) (lv := [(0, .ref (a 0)), (1, .int p0), (2, .int p1), (3, .int p2), (4, .int p3), (5, .int p4)]) (by decide) rfl (Nat.le_of_ble_eq_true rfl) rfl ?_
  intro p e s m args below meth c A Q hA hQ F hr hnm
  have hts := F.2.2.2.2.1
  have w_0 : (Cond.fieldLink RX13 73 "QuietCutModel" "taped" "I").before args s = true := hts _ (List.mem_of_getElem? (i := 1) rfl)
  have i_X13 : ∀ w ∈ u_ws RX13 TX13 73, w ∈ wsX13_feed := fun _ h => List.mem_cons_of_mem _ (List.mem_append_right _ h)
  have rg0 : -2147483648 ≤ s0 ∧ s0 ≤ 2147483647 := e0 ▸ ti_rng p0
  have rg1 : -2147483648 ≤ s1 ∧ s1 ≤ 2147483647 := e1 ▸ ti_rng p1
  have rg2 : -2147483648 ≤ s2 ∧ s2 ≤ 2147483647 := e2 ▸ ti_rng p2
  have rg3 : -2147483648 ≤ s3 ∧ s3 ≤ 2147483647 := e3 ▸ ti_rng p3
  have rg4 : -2147483648 ≤ s4 ∧ s4 ≤ 2147483647 := e4 ▸ ti_rng p4
  refine g_aload_n F 0 dX13_feed_0 rfl rfl ?_
  refine yg_0_2 F i_X13 w_0 dX13_feed_1 (G 0 2) (rfl) ?_
  refine g_bipush F 20 dX13_feed_4 (by decide) ?_
  have b2 : (0 : Int) ≤ (G 0 2).toInt ∧ (G 0 2).toInt ≤ 1000 := hI 0 2
  refine u_iadd F dX13_feed_6 (G 0 2).toInt 20 rfl rfl (by omega) (by omega) (fun y1 ey1 => ?_)
  refine g_sipush F 1000 dX13_feed_7 (by decide) ?_
  refine v_icmp_le F 16 dX13_feed_10 (by decide) y1.toInt 1000 rfl rfl (fun c3 => ?_) (fun c3 => ?_)
  · refine g_aload_n F 0 dX13_feed_16 rfl rfl ?_
    refine g_iload_n F 1 dX13_feed_17 rfl rfl ?_
    refine u_callVv (k := 0) (n := 0) (b := a 0) (As := [.int p0]) (st := []) F (fun sz => S_X13_lay l D K a G p0 s0 e0 (by (first | omega | (simp only [Int32.reduceToInt, true_and, and_true, ne_eq, not_true_eq_false, false_and, or_false, false_or, true_or, or_true, false_implies] <;> omega))) hI sz) (cwV 1 hts gX13_feed_X13_lay rfl rfl rfl (by decide +kernel) ⟨Nat.le_of_ble_eq_true rfl, Nat.le_of_ble_eq_true rfl⟩) rfl 0 yc_0 rfl (Nat.le_of_ble_eq_true rfl) ⟨Nat.zero_le _, Nat.zero_le _⟩ dX13_feed_18 (fun G6 hw5 => ?_)
    have hI7 : yI G6 := hw5.1
    have hU8 : gu_un ycd [3, 200] G G6 := hw5.2.1
    have hp9 := hw5.2.2
    have b10 : (0 : Int) ≤ (G6 0 2).toInt ∧ (G6 0 2).toInt ≤ 1000 := hI7 0 2
    have q11 : ((G6 0 2).toInt = (G 0 2).toInt + 4) := hp9.1
    have q12 : tLay (G 2) (G6 2) (G 0 2).toInt p0 4 := hp9.2
    clear hp9 hw5
    refine g_aload_n F 0 dX13_feed_21 rfl rfl ?_
    refine g_iload_n F 2 dX13_feed_22 rfl rfl ?_
    refine u_callVv (k := 0) (n := 0) (b := a 0) (As := [.int p1]) (st := []) F (fun sz => S_X13_lay l D K a G6 p1 s1 e1 (by (first | omega | (simp only [Int32.reduceToInt, true_and, and_true, ne_eq, not_true_eq_false, false_and, or_false, false_or, true_or, or_true, false_implies] <;> omega))) hI7 sz) (cwV 1 hts gX13_feed_X13_lay rfl rfl rfl (by decide +kernel) ⟨Nat.le_of_ble_eq_true rfl, Nat.le_of_ble_eq_true rfl⟩) rfl 0 yc_0 rfl (Nat.le_of_ble_eq_true rfl) ⟨Nat.zero_le _, Nat.zero_le _⟩ dX13_feed_23 (fun G15 hw14 => ?_)
    have hI16 : yI G15 := hw14.1
    have hU17 : gu_un ycd [3, 200] G6 G15 := hw14.2.1
    have hp18 := hw14.2.2
    have b19 : (0 : Int) ≤ (G15 0 2).toInt ∧ (G15 0 2).toInt ≤ 1000 := hI16 0 2
    have q20 : ((G15 0 2).toInt = (G6 0 2).toInt + 4) := hp18.1
    have q21 : tLay (G6 2) (G15 2) (G6 0 2).toInt p1 4 := hp18.2
    clear hp18 hw14
    refine g_aload_n F 0 dX13_feed_26 rfl rfl ?_
    refine g_iload_n F 3 dX13_feed_27 rfl rfl ?_
    refine u_callVv (k := 0) (n := 0) (b := a 0) (As := [.int p2]) (st := []) F (fun sz => S_X13_lay l D K a G15 p2 s2 e2 (by (first | omega | (simp only [Int32.reduceToInt, true_and, and_true, ne_eq, not_true_eq_false, false_and, or_false, false_or, true_or, or_true, false_implies] <;> omega))) hI16 sz) (cwV 1 hts gX13_feed_X13_lay rfl rfl rfl (by decide +kernel) ⟨Nat.le_of_ble_eq_true rfl, Nat.le_of_ble_eq_true rfl⟩) rfl 0 yc_0 rfl (Nat.le_of_ble_eq_true rfl) ⟨Nat.zero_le _, Nat.zero_le _⟩ dX13_feed_28 (fun G24 hw23 => ?_)
    have hI25 : yI G24 := hw23.1
    have hU26 : gu_un ycd [3, 200] G15 G24 := hw23.2.1
    have hp27 := hw23.2.2
    have b28 : (0 : Int) ≤ (G24 0 2).toInt ∧ (G24 0 2).toInt ≤ 1000 := hI25 0 2
    have q29 : ((G24 0 2).toInt = (G15 0 2).toInt + 4) := hp27.1
    have q30 : tLay (G15 2) (G24 2) (G15 0 2).toInt p2 4 := hp27.2
    clear hp27 hw23
    refine g_aload_n F 0 dX13_feed_31 rfl rfl ?_
    refine g_iload F 4 dX13_feed_32 rfl ?_
    refine u_callVv (k := 0) (n := 0) (b := a 0) (As := [.int p3]) (st := []) F (fun sz => S_X13_lay l D K a G24 p3 s3 e3 (by (first | omega | (simp only [Int32.reduceToInt, true_and, and_true, ne_eq, not_true_eq_false, false_and, or_false, false_or, true_or, or_true, false_implies] <;> omega))) hI25 sz) (cwV 1 hts gX13_feed_X13_lay rfl rfl rfl (by decide +kernel) ⟨Nat.le_of_ble_eq_true rfl, Nat.le_of_ble_eq_true rfl⟩) rfl 0 yc_0 rfl (Nat.le_of_ble_eq_true rfl) ⟨Nat.zero_le _, Nat.zero_le _⟩ dX13_feed_34 (fun G33 hw32 => ?_)
    have hI34 : yI G33 := hw32.1
    have hU35 : gu_un ycd [3, 200] G24 G33 := hw32.2.1
    have hp36 := hw32.2.2
    have b37 : (0 : Int) ≤ (G33 0 2).toInt ∧ (G33 0 2).toInt ≤ 1000 := hI34 0 2
    have q38 : ((G33 0 2).toInt = (G24 0 2).toInt + 4) := hp36.1
    have q39 : tLay (G24 2) (G33 2) (G24 0 2).toInt p3 4 := hp36.2
    clear hp36 hw32
    refine g_aload_n F 0 dX13_feed_37 rfl rfl ?_
    refine g_iload F 5 dX13_feed_38 rfl ?_
    refine u_callVv (k := 0) (n := 0) (b := a 0) (As := [.int p4]) (st := []) F (fun sz => S_X13_lay l D K a G33 p4 s4 e4 (by (first | omega | (simp only [Int32.reduceToInt, true_and, and_true, ne_eq, not_true_eq_false, false_and, or_false, false_or, true_or, or_true, false_implies] <;> omega))) hI34 sz) (cwV 1 hts gX13_feed_X13_lay rfl rfl rfl (by decide +kernel) ⟨Nat.le_of_ble_eq_true rfl, Nat.le_of_ble_eq_true rfl⟩) rfl 0 yc_0 rfl (Nat.le_of_ble_eq_true rfl) ⟨Nat.zero_le _, Nat.zero_le _⟩ dX13_feed_40 (fun G42 hw41 => ?_)
    have hI43 : yI G42 := hw41.1
    have hU44 : gu_un ycd [3, 200] G33 G42 := hw41.2.1
    have hp45 := hw41.2.2
    have b46 : (0 : Int) ≤ (G42 0 2).toInt ∧ (G42 0 2).toInt ≤ 1000 := hI43 0 2
    have q47 : ((G42 0 2).toInt = (G33 0 2).toInt + 4) := hp45.1
    have q48 : tLay (G33 2) (G42 2) (G33 0 2).toInt p4 4 := hp45.2
    clear hp45 hw41
    refine g_aload_n F 0 dX13_feed_43 rfl rfl ?_
    refine yg_0_2 F i_X13 w_0 dX13_feed_44 (G42 0 2) (rfl) ?_
    exact u_iret F hA hQ hr G42 (⟨hI43, (gu_un.tr (gu_un.tr (gu_un.tr (gu_un.tr (gu_un.tr gu_un.rf (gu_un.su hU8 rfl)) (gu_un.su hU17 rfl)) (gu_un.su hU26 rfl)) (gu_un.su hU35 rfl)) (gu_un.su hU44 rfl)), (by have h9 := ti_rng (G42 0 2); omega), (by show (((G42 0 2).toInt = -3 ∧ 980 < (G 0 2).toInt ∧ (G42 0 2).toInt = (G 0 2).toInt) ∨ ((G42 0 2).toInt = (G 0 2).toInt + 20 ∧ (G 0 2).toInt ≤ 980 ∧ (G42 0 2).toInt = (G 0 2).toInt + 20)); (first | omega | (simp only [Int32.reduceToInt, true_and, and_true, ne_eq, not_true_eq_false, false_and, or_false, false_or, true_or, or_true, false_implies] <;> omega))), (Or.inr ⟨_, q12.cast (by omega), _, q21.cast (by omega), _, q30.cast (by omega), _, q39.cast (by omega), _, q48.cast (by omega), rfl⟩)⟩) rfl rfl dX13_feed_47
  · refine g_bipush F (-3) dX13_feed_13 (by decide) ?_
    exact u_iret F hA hQ hr G (⟨hI, gu_un.rf, (by decide), (by show (((-3) = -3 ∧ 980 < (G 0 2).toInt ∧ (G 0 2).toInt = (G 0 2).toInt) ∨ ((-3) = (G 0 2).toInt + 20 ∧ (G 0 2).toInt ≤ 980 ∧ (G 0 2).toInt = (G 0 2).toInt + 20)); (first | omega | (simp only [Int32.reduceToInt, true_and, and_true, ne_eq, not_true_eq_false, false_and, or_false, false_or, true_or, or_true, false_implies] <;> omega))), (Or.inl ⟨by decide, fun _ _ => rfl⟩)⟩) rfl rfl dX13_feed_15

theorem dX13_end_0 : decode cX13_end 0 = .ok (.iload_n 1, 1) := by decide +kernel
theorem dX13_end_1 : decode cX13_end 1 = .ok (.i2l, 1) := by decide +kernel
theorem dX13_end_2 : decode cX13_end 2 = .ok (.lconst 0, 1) := by decide +kernel
theorem dX13_end_3 : decode cX13_end 3 = .ok (.aload_n 0, 1) := by decide +kernel
theorem dX13_end_4 : decode cX13_end 4 = .ok (.getfield 73, 3) := by decide +kernel
theorem dX13_end_7 : decode cX13_end 7 = .ok (.i2l, 1) := by decide +kernel
theorem dX13_end_8 : decode cX13_end 8 = .ok (.invokestatic 61, 3) := by decide +kernel
theorem dX13_end_11 : decode cX13_end 11 = .ok (.ifCond .ne 5, 3) := by decide +kernel
theorem dX13_end_14 : decode cX13_end 14 = .ok (.iconst (-1), 1) := by decide +kernel
theorem dX13_end_15 : decode cX13_end 15 = .ok (.ireturn, 1) := by decide +kernel
theorem dX13_end_16 : decode cX13_end 16 = .ok (.aload_n 0, 1) := by decide +kernel
theorem dX13_end_17 : decode cX13_end 17 = .ok (.iload_n 1, 1) := by decide +kernel
theorem dX13_end_18 : decode cX13_end 18 = .ok (.putfield 73, 3) := by decide +kernel
theorem dX13_end_21 : decode cX13_end 21 = .ok (.iload_n 1, 1) := by decide +kernel
theorem dX13_end_22 : decode cX13_end 22 = .ok (.ireturn, 1) := by decide +kernel
set_option maxRecDepth 20000 in
theorem ggX13_end_X13_in : GoodIn wsX13_end wsX13_in := goodIn_r _ [5] rfl (by decide +kernel)
set_option maxRecDepth 20000 in
theorem gX13_end_X13_in : GoodIn wsX13_end (va_wsS RX13 61 yX13_in wsX13_in) := goodIn_app (goodIn_of _ (by decide +kernel)) ggX13_end_X13_in
set_option maxHeartbeats 4000000 in
set_option maxRecDepth 100000 in
theorem S_X13_end (l : Launch) (D : va_G) (K : Nat → ClassId) (a : Nat → Nat) (G : gS) (p0 : Int32) (s0 : Int) (e0 : p0.toInt = s0) (hI : yI G) (sz : Nat) : Ki l yX13_end wsX13_end 2 65 0 0 D [.ref (a 0), .int p0] (yW K a G) (tK K) sz (fun (r : Int32) (G' : gS) => (yI G') ∧ (gu_un ycd [3] G G') ∧ ((-1) ≤ r.toInt ∧ r.toInt ≤ 1000) ∧ (((r.toInt = -1 ∧ (s0 < 0 ∨ (G 0 2).toInt < s0) ∧ (G' 0 2).toInt = (G 0 2).toInt) ∨ (r.toInt = s0 ∧ 0 ≤ s0 ∧ s0 ≤ (G 0 2).toInt ∧ (G' 0 2).toInt = s0)))) (fun (G' : gS) => (yW K a G')) (fun _ => (tK K)) := by
  unfold Ki
  refine g_ofW (cc := cX13_end) (lv := [(0, .ref (a 0)), (1, .int p0)]) (by decide) rfl (Nat.le_of_ble_eq_true rfl) rfl ?_
  intro p e s m args below meth c A Q hA hQ F hr hnm
  have hts := F.2.2.2.2.1
  have w_0 : (Cond.fieldLink RX13 73 "QuietCutModel" "taped" "I").before args s = true := hts _ (List.mem_of_getElem? (i := 1) rfl)
  have i_X13 : ∀ w ∈ u_ws RX13 TX13 73, w ∈ wsX13_end := fun _ h => List.mem_cons_of_mem _ (List.mem_append_right _ h)
  have rg0 : -2147483648 ≤ s0 ∧ s0 ≤ 2147483647 := e0 ▸ ti_rng p0
  refine g_iload_n F 1 dX13_end_0 rfl rfl ?_
  refine g_i2l F dX13_end_1 ?_
  refine g_lconst F 0 dX13_end_2 (by decide) ?_
  refine g_aload_n F 0 dX13_end_3 rfl rfl ?_
  refine yg_0_2 F i_X13 w_0 dX13_end_4 (G 0 2) (rfl) ?_
  refine g_i2l F dX13_end_7 ?_
  have b1 : (0 : Int) ≤ (G 0 2).toInt ∧ (G 0 2).toInt ≤ 1000 := hI 0 2
  refine u_call0 (k := 0) (n := 0) (As := [.long (Int32.toInt64 p0), .long 0, .long (Int32.toInt64 (G 0 2))]) (st := []) F (fun sz => S_X13_in l D (Int32.toInt64 p0) s0 0 0 (Int32.toInt64 (G 0 2)) (G 0 2).toInt (ti_i2l e0) rfl (ti_i2l rfl) sz) (va_cwS 3 hts gX13_end_X13_in rfl rfl rfl (by decide +kernel) ⟨Nat.le_of_ble_eq_true rfl, Nat.le_of_ble_eq_true rfl⟩) rfl (Nat.le_of_ble_eq_true rfl) ⟨Nat.zero_le _, Nat.zero_le _⟩ dX13_end_8 (fun r2 _ hw3 => ?_)
  rcases hw3 with ⟨rfl, q5⟩ | ⟨rfl, q6⟩
  · refine v_if_ne F 16 dX13_end_11 (by decide) 1 rfl (fun c7 => ?_) (fun c7 => absurd c7 (by decide))
    refine g_aload_n F 0 dX13_end_16 rfl rfl ?_
    refine g_iload_n F 1 dX13_end_17 rfl rfl ?_
    refine yp_0_2 F i_X13 w_0 dX13_end_18 ?_
    refine g_iload_n F 1 dX13_end_21 rfl rfl ?_
    exact u_iret F hA hQ hr (gu_up G 0 2 p0) (⟨(gu_I.up (j := 0) (k := 2) (v := p0) hI (show (0 : Int) ≤ Int32.toInt p0 by omega) (show Int32.toInt p0 ≤ 1000 by omega)), (gu_un.up (j := 0) (k := 2) (v := p0) gu_un.rf (show (3 : Nat) ∈ ([3] : List Nat) by decide)), (by have h9 := ti_rng p0; omega), (by rw [e0]; show ((s0 = -1 ∧ (s0 < 0 ∨ (G 0 2).toInt < s0) ∧ ((gu_up G 0 2 p0) 0 2).toInt = (G 0 2).toInt) ∨ (s0 = s0 ∧ 0 ≤ s0 ∧ s0 ≤ (G 0 2).toInt ∧ ((gu_up G 0 2 p0) 0 2).toInt = s0)); have e9_0_2 : (gu_up G 0 2 p0) 0 2 = p0 := rfl; (try simp only [e9_0_2, true_and, and_true]) <;> (first | omega | (simp only [Int32.reduceToInt, true_and, and_true, ne_eq, not_true_eq_false, false_and, or_false, false_or, true_or, or_true, false_implies] <;> omega)))⟩) rfl rfl dX13_end_22
  · refine v_if_ne F 16 dX13_end_11 (by decide) 0 rfl (fun c8 => absurd c8 (by decide)) (fun c8 => ?_)
    refine g_iconst F (-1) dX13_end_14 (by decide) ?_
    exact u_iret F hA hQ hr G (⟨hI, gu_un.rf, (by decide), (by show (((-1) = -1 ∧ (s0 < 0 ∨ (G 0 2).toInt < s0) ∧ (G 0 2).toInt = (G 0 2).toInt) ∨ ((-1) = s0 ∧ 0 ≤ s0 ∧ s0 ≤ (G 0 2).toInt ∧ (G 0 2).toInt = s0)); (first | omega | (simp only [Int32.reduceToInt, true_and, and_true, ne_eq, not_true_eq_false, false_and, or_false, false_or, true_or, or_true, false_implies] <;> omega)))⟩) rfl rfl dX13_end_15

theorem dX13_fault_0 : decode cX13_fault 0 = .ok (.iload_n 1, 1) := by decide +kernel
theorem dX13_fault_1 : decode cX13_fault 1 = .ok (.ifCond .ne 10, 3) := by decide +kernel
theorem dX13_fault_4 : decode cX13_fault 4 = .ok (.aload_n 0, 1) := by decide +kernel
theorem dX13_fault_5 : decode cX13_fault 5 = .ok (.getfield 3, 3) := by decide +kernel
theorem dX13_fault_8 : decode cX13_fault 8 = .ok (.goto 16, 3) := by decide +kernel
theorem dX13_fault_11 : decode cX13_fault 11 = .ok (.iload_n 1, 1) := by decide +kernel
theorem dX13_fault_12 : decode cX13_fault 12 = .ok (.iconst 1, 1) := by decide +kernel
theorem dX13_fault_13 : decode cX13_fault 13 = .ok (.if_icmp .ne 10, 3) := by decide +kernel
theorem dX13_fault_16 : decode cX13_fault 16 = .ok (.aload_n 0, 1) := by decide +kernel
theorem dX13_fault_17 : decode cX13_fault 17 = .ok (.getfield 10, 3) := by decide +kernel
theorem dX13_fault_20 : decode cX13_fault 20 = .ok (.goto 4, 3) := by decide +kernel
theorem dX13_fault_23 : decode cX13_fault 23 = .ok (.iconst (-1), 1) := by decide +kernel
theorem dX13_fault_24 : decode cX13_fault 24 = .ok (.ireturn, 1) := by decide +kernel
set_option maxHeartbeats 4000000 in
set_option maxRecDepth 100000 in
theorem S_X13_fault (l : Launch) (D : va_G) (K : Nat → ClassId) (a : Nat → Nat) (G : gS) (p0 : Int32) (s0 : Int) (e0 : p0.toInt = s0) (hI : yI G) (sz : Nat) : Ki l yX13_fault wsX13_fault 1 40 0 0 D [.ref (a 0), .int p0] (yW K a G) (tK K) sz (fun (r : Int32) (_ : Unit) => (((s0 = 0 ∧ r.toInt = (G 0 8).toInt) ∨ (s0 = 1 ∧ r.toInt = (G 0 9).toInt) ∨ (s0 ≠ 0 ∧ s0 ≠ 1 ∧ r.toInt = -1)))) (fun (_ : Unit) => (yW K a G)) (fun _ => (tK K)) := by
  unfold Ki
  refine g_ofW (cc := cX13_fault) (lv := [(0, .ref (a 0)), (1, .int p0)]) (by decide) rfl (Nat.le_of_ble_eq_true rfl) rfl ?_
  intro p e s m args below meth c A Q hA hQ F hr hnm
  have hts := F.2.2.2.2.1
  have w_0 : (Cond.fieldLink RX13 10 "QuietCutModel" "faultAt" "I").before args s = true := hts _ (List.mem_of_getElem? (i := 2) rfl)
  have i_X13 : ∀ w ∈ u_ws RX13 TX13 73, w ∈ wsX13_fault := fun _ h => List.mem_cons_of_mem _ (List.mem_append_right _ h)
  have w_1 : (Cond.fieldLink RX13 3 "QuietCutModel" "fault" "I").before args s = true := hts _ (List.mem_of_getElem? (i := 1) rfl)
  have rg0 : -2147483648 ≤ s0 ∧ s0 ≤ 2147483647 := e0 ▸ ti_rng p0
  refine g_iload_n F 1 dX13_fault_0 rfl rfl ?_
  refine v_if_ne F 11 dX13_fault_1 (by decide) s0 e0 (fun c1 => ?_) (fun c1 => ?_)
  · refine g_iload_n F 1 dX13_fault_11 rfl rfl ?_
    refine g_iconst F 1 dX13_fault_12 (by decide) ?_
    refine v_icmp_ne F 23 dX13_fault_13 (by decide) s0 1 e0 rfl (fun c2 => ?_) (fun c2 => ?_)
    · refine g_iconst F (-1) dX13_fault_23 (by decide) ?_
      exact u_iret F hA hQ hr () ((by show ((s0 = 0 ∧ (-1) = (G 0 8).toInt) ∨ (s0 = 1 ∧ (-1) = (G 0 9).toInt) ∨ (s0 ≠ 0 ∧ s0 ≠ 1 ∧ (-1) = -1)); (first | omega | (simp only [Int32.reduceToInt, true_and, and_true, ne_eq, not_true_eq_false, false_and, or_false, false_or, true_or, or_true, false_implies] <;> omega)))) rfl rfl dX13_fault_24
    · refine g_aload_n F 0 dX13_fault_16 rfl rfl ?_
      refine yg_0_9 F i_X13 w_0 dX13_fault_17 (G 0 9) (rfl) ?_
      refine g_goto F 24 dX13_fault_20 (by decide) ?_
      exact u_iret F hA hQ hr () ((by show ((s0 = 0 ∧ (G 0 9).toInt = (G 0 8).toInt) ∨ (s0 = 1 ∧ (G 0 9).toInt = (G 0 9).toInt) ∨ (s0 ≠ 0 ∧ s0 ≠ 1 ∧ (G 0 9).toInt = -1)); (first | omega | (simp only [Int32.reduceToInt, true_and, and_true, ne_eq, not_true_eq_false, false_and, or_false, false_or, true_or, or_true, false_implies] <;> omega)))) rfl rfl dX13_fault_24
  · refine g_aload_n F 0 dX13_fault_4 rfl rfl ?_
    refine yg_0_8 F i_X13 w_1 dX13_fault_5 (G 0 8) (rfl) ?_
    refine g_goto F 24 dX13_fault_8 (by decide) ?_
    exact u_iret F hA hQ hr () ((by show ((s0 = 0 ∧ (G 0 8).toInt = (G 0 8).toInt) ∨ (s0 = 1 ∧ (G 0 8).toInt = (G 0 9).toInt) ∨ (s0 ≠ 0 ∧ s0 ≠ 1 ∧ (G 0 8).toInt = -1)); (first | omega | (simp only [Int32.reduceToInt, true_and, and_true, ne_eq, not_true_eq_false, false_and, or_false, false_or, true_or, or_true, false_implies] <;> omega)))) rfl rfl dX13_fault_24

theorem dX13_told_0 : decode cX13_told 0 = .ok (.iload_n 1, 1) := by decide +kernel
theorem dX13_told_1 : decode cX13_told 1 = .ok (.i2l, 1) := by decide +kernel
theorem dX13_told_2 : decode cX13_told 2 = .ok (.lconst 0, 1) := by decide +kernel
theorem dX13_told_3 : decode cX13_told 3 = .ok (.ldc2_w 350, 3) := by decide +kernel
theorem dX13_told_6 : decode cX13_told 6 = .ok (.invokestatic 61, 3) := by decide +kernel
theorem dX13_told_9 : decode cX13_told 9 = .ok (.ifCond .eq 10, 3) := by decide +kernel
theorem dX13_told_12 : decode cX13_told 12 = .ok (.aload_n 0, 1) := by decide +kernel
theorem dX13_told_13 : decode cX13_told 13 = .ok (.getfield 199, 3) := by decide +kernel
theorem dX13_told_16 : decode cX13_told 16 = .ok (.iload_n 1, 1) := by decide +kernel
theorem dX13_told_17 : decode cX13_told 17 = .ok (.iaload, 1) := by decide +kernel
theorem dX13_told_18 : decode cX13_told 18 = .ok (.ireturn, 1) := by decide +kernel
theorem dX13_told_19 : decode cX13_told 19 = .ok (.iload_n 1, 1) := by decide +kernel
theorem dX13_told_20 : decode cX13_told 20 = .ok (.i2l, 1) := by decide +kernel
theorem dX13_told_21 : decode cX13_told 21 = .ok (.ldc2_w 352, 3) := by decide +kernel
theorem dX13_told_24 : decode cX13_told 24 = .ok (.ldc2_w 354, 3) := by decide +kernel
theorem dX13_told_27 : decode cX13_told 27 = .ok (.aload_n 0, 1) := by decide +kernel
theorem dX13_told_28 : decode cX13_told 28 = .ok (.getfield 199, 3) := by decide +kernel
theorem dX13_told_31 : decode cX13_told 31 = .ok (.bipush 10, 2) := by decide +kernel
theorem dX13_told_33 : decode cX13_told 33 = .ok (.iaload, 1) := by decide +kernel
theorem dX13_told_34 : decode cX13_told 34 = .ok (.i2l, 1) := by decide +kernel
theorem dX13_told_35 : decode cX13_told 35 = .ok (.ladd, 1) := by decide +kernel
theorem dX13_told_36 : decode cX13_told 36 = .ok (.invokestatic 61, 3) := by decide +kernel
theorem dX13_told_39 : decode cX13_told 39 = .ok (.ifCond .eq 13, 3) := by decide +kernel
theorem dX13_told_42 : decode cX13_told 42 = .ok (.aload_n 0, 1) := by decide +kernel
theorem dX13_told_43 : decode cX13_told 43 = .ok (.getfield 202, 3) := by decide +kernel
theorem dX13_told_46 : decode cX13_told 46 = .ok (.iload_n 1, 1) := by decide +kernel
theorem dX13_told_47 : decode cX13_told 47 = .ok (.bipush 20, 2) := by decide +kernel
theorem dX13_told_49 : decode cX13_told 49 = .ok (.isub, 1) := by decide +kernel
theorem dX13_told_50 : decode cX13_told 50 = .ok (.iaload, 1) := by decide +kernel
theorem dX13_told_51 : decode cX13_told 51 = .ok (.ireturn, 1) := by decide +kernel
theorem dX13_told_52 : decode cX13_told 52 = .ok (.iload_n 1, 1) := by decide +kernel
theorem dX13_told_53 : decode cX13_told 53 = .ok (.i2l, 1) := by decide +kernel
theorem dX13_told_54 : decode cX13_told 54 = .ok (.ldc2_w 356, 3) := by decide +kernel
theorem dX13_told_57 : decode cX13_told 57 = .ok (.ldc2_w 358, 3) := by decide +kernel
theorem dX13_told_60 : decode cX13_told 60 = .ok (.aload_n 0, 1) := by decide +kernel
theorem dX13_told_61 : decode cX13_told 61 = .ok (.getfield 199, 3) := by decide +kernel
theorem dX13_told_64 : decode cX13_told 64 = .ok (.bipush 11, 2) := by decide +kernel
theorem dX13_told_66 : decode cX13_told 66 = .ok (.iaload, 1) := by decide +kernel
theorem dX13_told_67 : decode cX13_told 67 = .ok (.i2l, 1) := by decide +kernel
theorem dX13_told_68 : decode cX13_told 68 = .ok (.ladd, 1) := by decide +kernel
theorem dX13_told_69 : decode cX13_told 69 = .ok (.invokestatic 61, 3) := by decide +kernel
theorem dX13_told_72 : decode cX13_told 72 = .ok (.ifCond .eq 15, 3) := by decide +kernel
theorem dX13_told_75 : decode cX13_told 75 = .ok (.aload_n 0, 1) := by decide +kernel
theorem dX13_told_76 : decode cX13_told 76 = .ok (.getfield 204, 3) := by decide +kernel
theorem dX13_told_79 : decode cX13_told 79 = .ok (.iload_n 1, 1) := by decide +kernel
theorem dX13_told_80 : decode cX13_told 80 = .ok (.bipush 30, 2) := by decide +kernel
theorem dX13_told_82 : decode cX13_told 82 = .ok (.isub, 1) := by decide +kernel
theorem dX13_told_83 : decode cX13_told 83 = .ok (.iaload, 1) := by decide +kernel
theorem dX13_told_84 : decode cX13_told 84 = .ok (.goto 4, 3) := by decide +kernel
theorem dX13_told_87 : decode cX13_told 87 = .ok (.iconst (-1), 1) := by decide +kernel
theorem dX13_told_88 : decode cX13_told 88 = .ok (.ireturn, 1) := by decide +kernel
set_option maxRecDepth 20000 in
theorem ggX13_told_X13_in : GoodIn wsX13_told wsX13_in := goodIn_r _ [12] rfl (by decide +kernel)
set_option maxRecDepth 20000 in
theorem gX13_told_X13_in : GoodIn wsX13_told (va_wsS RX13 61 yX13_in wsX13_in) := goodIn_app (goodIn_of _ (by decide +kernel)) ggX13_told_X13_in
set_option maxHeartbeats 4000000 in
set_option maxRecDepth 100000 in
theorem S_X13_told (l : Launch) (D : va_G) (K : Nat → ClassId) (a : Nat → Nat) (G : gS) (p0 : Int32) (s0 : Int) (e0 : p0.toInt = s0) (hI : yI G) (sz : Nat) : Ki l yX13_told wsX13_told 2 65 0 0 D [.ref (a 0), .int p0] (yW K a G) (tK K) sz (fun (r : Int32) (_ : Unit) => (((0 ≤ s0 ∧ s0 ≤ 11 ∧ r.toInt = ((G 3) (s0).toNat).toInt) ∨ (20 ≤ s0 ∧ s0 ≤ 19 + (G 3 10).toInt ∧ r.toInt = ((G 5) (s0 - 20).toNat).toInt) ∨ (30 ≤ s0 ∧ s0 ≤ 29 + (G 3 11).toInt ∧ r.toInt = ((G 7) (s0 - 30).toNat).toInt) ∨ (r.toInt = -1 ∧ (s0 < 0 ∨ 11 < s0) ∧ (s0 < 20 ∨ 19 + (G 3 10).toInt < s0) ∧ (s0 < 30 ∨ 29 + (G 3 11).toInt < s0))))) (fun (_ : Unit) => (yW K a G)) (fun _ => (tK K)) := by
  unfold Ki
  refine g_ofW (cc := cX13_told) (lv := [(0, .ref (a 0)), (1, .int p0)]) (by decide) rfl (Nat.le_of_ble_eq_true rfl) rfl ?_
  intro p e s m args below meth c A Q hA hQ F hr hnm
  have hts := F.2.2.2.2.1
  have w_0 : (Cond.constantLong RX13 350 (11)).before args s = true := hts _ (List.mem_of_getElem? (i := 1) rfl)
  have w_1 : (Cond.fieldLink RX13 199 "QuietCutModel" "rule" "[I").before args s = true := hts _ (List.mem_of_getElem? (i := 2) rfl)
  have i_X13 : ∀ w ∈ u_ws RX13 TX13 73, w ∈ wsX13_told := fun _ h => List.mem_cons_of_mem _ (List.mem_append_right _ h)
  have w_2 : (Cond.constantLong RX13 352 (20)).before args s = true := hts _ (List.mem_of_getElem? (i := 3) rfl)
  have w_3 : (Cond.constantLong RX13 354 (19)).before args s = true := hts _ (List.mem_of_getElem? (i := 4) rfl)
  have w_4 : (Cond.fieldLink RX13 202 "QuietCutModel" "teeth" "[I").before args s = true := hts _ (List.mem_of_getElem? (i := 5) rfl)
  have w_5 : (Cond.constantLong RX13 356 (30)).before args s = true := hts _ (List.mem_of_getElem? (i := 6) rfl)
  have w_6 : (Cond.constantLong RX13 358 (29)).before args s = true := hts _ (List.mem_of_getElem? (i := 7) rfl)
  have w_7 : (Cond.fieldLink RX13 204 "QuietCutModel" "sway" "[I").before args s = true := hts _ (List.mem_of_getElem? (i := 8) rfl)
  have rg0 : -2147483648 ≤ s0 ∧ s0 ≤ 2147483647 := e0 ▸ ti_rng p0
  have b1 : (1 : Int) ≤ (G 3 10).toInt ∧ (G 3 10).toInt ≤ 4 := hI 3 10
  have b2 : (1 : Int) ≤ (G 3 11).toInt ∧ (G 3 11).toInt ≤ 6 := hI 3 11
  refine g_iload_n F 1 dX13_told_0 rfl rfl ?_
  refine g_i2l F dX13_told_1 ?_
  refine g_lconst F 0 dX13_told_2 (by decide) ?_
  refine g_ldc2 F w_0 dX13_told_3 ?_
  refine u_call0 (k := 0) (n := 0) (As := [.long (Int32.toInt64 p0), .long 0, .long 11]) (st := []) F (fun sz => S_X13_in l D (Int32.toInt64 p0) s0 0 0 11 11 (ti_i2l e0) rfl rfl sz) (va_cwS 3 hts gX13_told_X13_in rfl rfl rfl (by decide +kernel) ⟨Nat.le_of_ble_eq_true rfl, Nat.le_of_ble_eq_true rfl⟩) rfl (Nat.le_of_ble_eq_true rfl) ⟨Nat.zero_le _, Nat.zero_le _⟩ dX13_told_6 (fun r3 _ hw4 => ?_)
  rcases hw4 with ⟨rfl, q6⟩ | ⟨rfl, q7⟩
  · refine v_if_eq F 19 dX13_told_9 (by decide) 1 rfl (fun c8 => absurd c8 (by decide)) (fun c8 => ?_)
    refine g_aload_n F 0 dX13_told_12 rfl rfl ?_
    refine yg_0_10 F i_X13 w_1 dX13_told_13 ?_
    refine g_iload_n F 1 dX13_told_16 rfl rfl ?_
    refine u1_iald F 3 0 yc_3 rfl s0 e0 (by omega) (by omega) dX13_told_17 ((G 3) (s0).toNat) (rfl) ?_
    exact u_iret F hA hQ hr () ((by show ((0 ≤ s0 ∧ s0 ≤ 11 ∧ ((G 3) (s0).toNat).toInt = ((G 3) (s0).toNat).toInt) ∨ (20 ≤ s0 ∧ s0 ≤ 19 + (G 3 10).toInt ∧ ((G 3) (s0).toNat).toInt = ((G 5) (s0 - 20).toNat).toInt) ∨ (30 ≤ s0 ∧ s0 ≤ 29 + (G 3 11).toInt ∧ ((G 3) (s0).toNat).toInt = ((G 7) (s0 - 30).toNat).toInt) ∨ (((G 3) (s0).toNat).toInt = -1 ∧ (s0 < 0 ∨ 11 < s0) ∧ (s0 < 20 ∨ 19 + (G 3 10).toInt < s0) ∧ (s0 < 30 ∨ 29 + (G 3 11).toInt < s0))); (first | omega | (simp only [Int32.reduceToInt, true_and, and_true, ne_eq, not_true_eq_false, false_and, or_false, false_or, true_or, or_true, false_implies] <;> omega)))) rfl rfl dX13_told_18
  · refine v_if_eq F 19 dX13_told_9 (by decide) 0 rfl (fun c9 => ?_) (fun c9 => absurd c9 (by decide))
    refine g_iload_n F 1 dX13_told_19 rfl rfl ?_
    refine g_i2l F dX13_told_20 ?_
    refine g_ldc2 F w_2 dX13_told_21 ?_
    refine g_ldc2 F w_3 dX13_told_24 ?_
    refine g_aload_n F 0 dX13_told_27 rfl rfl ?_
    refine yg_0_10 F i_X13 w_1 dX13_told_28 ?_
    refine g_bipush F 10 dX13_told_31 (by decide) ?_
    refine u1_iald F 3 0 yc_3 rfl 10 rfl (by decide) (by decide) dX13_told_33 (G 3 10) (rfl) ?_
    refine g_i2l F dX13_told_34 ?_
    refine g_ladd F dX13_told_35 ?_
    refine u_call0 (k := 0) (n := 0) (As := [.long (Int32.toInt64 p0), .long 20, .long ((19 : Int64) + (Int32.toInt64 (G 3 10)))]) (st := []) F (fun sz => S_X13_in l D (Int32.toInt64 p0) s0 20 20 ((19 : Int64) + (Int32.toInt64 (G 3 10))) (19 + (G 3 10).toInt) (ti_i2l e0) rfl (ti_addL rfl (ti_i2l rfl) (by omega) (by omega)) sz) (va_cwS 3 hts gX13_told_X13_in rfl rfl rfl (by decide +kernel) ⟨Nat.le_of_ble_eq_true rfl, Nat.le_of_ble_eq_true rfl⟩) rfl (Nat.le_of_ble_eq_true rfl) ⟨Nat.zero_le _, Nat.zero_le _⟩ dX13_told_36 (fun r10 _ hw11 => ?_)
    rcases hw11 with ⟨rfl, q13⟩ | ⟨rfl, q14⟩
    · refine v_if_eq F 52 dX13_told_39 (by decide) 1 rfl (fun c15 => absurd c15 (by decide)) (fun c15 => ?_)
      refine g_aload_n F 0 dX13_told_42 rfl rfl ?_
      refine yg_0_12 F i_X13 w_4 dX13_told_43 ?_
      refine g_iload_n F 1 dX13_told_46 rfl rfl ?_
      refine g_bipush F 20 dX13_told_47 (by decide) ?_
      refine u_isub F dX13_told_49 s0 20 e0 rfl (by omega) (by omega) (fun y16 ey16 => ?_)
      refine u1_iald F 5 0 yc_5 rfl y16.toInt rfl (by omega) (by omega) dX13_told_50 ((G 5) ((s0 - 20)).toNat) (by rw [show y16.toInt = (s0 - 20) by omega] <;> rfl) ?_
      have b17 : (0 : Int) ≤ ((G 5) ((s0 - 20)).toNat).toInt ∧ ((G 5) ((s0 - 20)).toNat).toInt ≤ 15 := hI 5 _
      exact u_iret F hA hQ hr () ((by show ((0 ≤ s0 ∧ s0 ≤ 11 ∧ ((G 5) ((s0 - 20)).toNat).toInt = ((G 3) (s0).toNat).toInt) ∨ (20 ≤ s0 ∧ s0 ≤ 19 + (G 3 10).toInt ∧ ((G 5) ((s0 - 20)).toNat).toInt = ((G 5) (s0 - 20).toNat).toInt) ∨ (30 ≤ s0 ∧ s0 ≤ 29 + (G 3 11).toInt ∧ ((G 5) ((s0 - 20)).toNat).toInt = ((G 7) (s0 - 30).toNat).toInt) ∨ (((G 5) ((s0 - 20)).toNat).toInt = -1 ∧ (s0 < 0 ∨ 11 < s0) ∧ (s0 < 20 ∨ 19 + (G 3 10).toInt < s0) ∧ (s0 < 30 ∨ 29 + (G 3 11).toInt < s0))); (first | omega | (simp only [Int32.reduceToInt, true_and, and_true, ne_eq, not_true_eq_false, false_and, or_false, false_or, true_or, or_true, false_implies] <;> omega)))) rfl rfl dX13_told_51
    · refine v_if_eq F 52 dX13_told_39 (by decide) 0 rfl (fun c18 => ?_) (fun c18 => absurd c18 (by decide))
      refine g_iload_n F 1 dX13_told_52 rfl rfl ?_
      refine g_i2l F dX13_told_53 ?_
      refine g_ldc2 F w_5 dX13_told_54 ?_
      refine g_ldc2 F w_6 dX13_told_57 ?_
      refine g_aload_n F 0 dX13_told_60 rfl rfl ?_
      refine yg_0_10 F i_X13 w_1 dX13_told_61 ?_
      refine g_bipush F 11 dX13_told_64 (by decide) ?_
      refine u1_iald F 3 0 yc_3 rfl 11 rfl (by decide) (by decide) dX13_told_66 (G 3 11) (rfl) ?_
      refine g_i2l F dX13_told_67 ?_
      refine g_ladd F dX13_told_68 ?_
      refine u_call0 (k := 0) (n := 0) (As := [.long (Int32.toInt64 p0), .long 30, .long ((29 : Int64) + (Int32.toInt64 (G 3 11)))]) (st := []) F (fun sz => S_X13_in l D (Int32.toInt64 p0) s0 30 30 ((29 : Int64) + (Int32.toInt64 (G 3 11))) (29 + (G 3 11).toInt) (ti_i2l e0) rfl (ti_addL rfl (ti_i2l rfl) (by omega) (by omega)) sz) (va_cwS 3 hts gX13_told_X13_in rfl rfl rfl (by decide +kernel) ⟨Nat.le_of_ble_eq_true rfl, Nat.le_of_ble_eq_true rfl⟩) rfl (Nat.le_of_ble_eq_true rfl) ⟨Nat.zero_le _, Nat.zero_le _⟩ dX13_told_69 (fun r19 _ hw20 => ?_)
      rcases hw20 with ⟨rfl, q22⟩ | ⟨rfl, q23⟩
      · refine v_if_eq F 87 dX13_told_72 (by decide) 1 rfl (fun c24 => absurd c24 (by decide)) (fun c24 => ?_)
        refine g_aload_n F 0 dX13_told_75 rfl rfl ?_
        refine yg_0_14 F i_X13 w_7 dX13_told_76 ?_
        refine g_iload_n F 1 dX13_told_79 rfl rfl ?_
        refine g_bipush F 30 dX13_told_80 (by decide) ?_
        refine u_isub F dX13_told_82 s0 30 e0 rfl (by omega) (by omega) (fun y25 ey25 => ?_)
        refine u1_iald F 7 0 yc_7 rfl y25.toInt rfl (by omega) (by omega) dX13_told_83 ((G 7) ((s0 - 30)).toNat) (by rw [show y25.toInt = (s0 - 30) by omega] <;> rfl) ?_
        have b26 : (0 : Int) ≤ ((G 7) ((s0 - 30)).toNat).toInt ∧ ((G 7) ((s0 - 30)).toNat).toInt ≤ 9 := hI 7 _
        refine g_goto F 88 dX13_told_84 (by decide) ?_
        exact u_iret F hA hQ hr () ((by show ((0 ≤ s0 ∧ s0 ≤ 11 ∧ ((G 7) ((s0 - 30)).toNat).toInt = ((G 3) (s0).toNat).toInt) ∨ (20 ≤ s0 ∧ s0 ≤ 19 + (G 3 10).toInt ∧ ((G 7) ((s0 - 30)).toNat).toInt = ((G 5) (s0 - 20).toNat).toInt) ∨ (30 ≤ s0 ∧ s0 ≤ 29 + (G 3 11).toInt ∧ ((G 7) ((s0 - 30)).toNat).toInt = ((G 7) (s0 - 30).toNat).toInt) ∨ (((G 7) ((s0 - 30)).toNat).toInt = -1 ∧ (s0 < 0 ∨ 11 < s0) ∧ (s0 < 20 ∨ 19 + (G 3 10).toInt < s0) ∧ (s0 < 30 ∨ 29 + (G 3 11).toInt < s0))); (first | omega | (simp only [Int32.reduceToInt, true_and, and_true, ne_eq, not_true_eq_false, false_and, or_false, false_or, true_or, or_true, false_implies] <;> omega)))) rfl rfl dX13_told_88
      · refine v_if_eq F 87 dX13_told_72 (by decide) 0 rfl (fun c27 => ?_) (fun c27 => absurd c27 (by decide))
        refine g_iconst F (-1) dX13_told_87 (by decide) ?_
        exact u_iret F hA hQ hr () ((by show ((0 ≤ s0 ∧ s0 ≤ 11 ∧ (-1) = ((G 3) (s0).toNat).toInt) ∨ (20 ≤ s0 ∧ s0 ≤ 19 + (G 3 10).toInt ∧ (-1) = ((G 5) (s0 - 20).toNat).toInt) ∨ (30 ≤ s0 ∧ s0 ≤ 29 + (G 3 11).toInt ∧ (-1) = ((G 7) (s0 - 30).toNat).toInt) ∨ ((-1) = -1 ∧ (s0 < 0 ∨ 11 < s0) ∧ (s0 < 20 ∨ 19 + (G 3 10).toInt < s0) ∧ (s0 < 30 ∨ 29 + (G 3 11).toInt < s0))); (first | omega | (simp only [Int32.reduceToInt, true_and, and_true, ne_eq, not_true_eq_false, false_and, or_false, false_or, true_or, or_true, false_implies] <;> omega)))) rfl rfl dX13_told_88

theorem dX13_fresh_0 : decode cX13_fresh 0 = .ok (.iconst 0, 1) := by decide +kernel
theorem dX13_fresh_1 : decode cX13_fresh 1 = .ok (.istore_n 2, 1) := by decide +kernel
theorem dX13_fresh_2 : decode cX13_fresh 2 = .ok (.iload_n 2, 1) := by decide +kernel
theorem dX13_fresh_3 : decode cX13_fresh 3 = .ok (.bipush 96, 2) := by decide +kernel
theorem dX13_fresh_5 : decode cX13_fresh 5 = .ok (.if_icmp .ge 23, 3) := by decide +kernel
theorem dX13_fresh_8 : decode cX13_fresh 8 = .ok (.aload_n 0, 1) := by decide +kernel
theorem dX13_fresh_9 : decode cX13_fresh 9 = .ok (.getfield 214, 3) := by decide +kernel
theorem dX13_fresh_12 : decode cX13_fresh 12 = .ok (.iload_n 2, 1) := by decide +kernel
theorem dX13_fresh_13 : decode cX13_fresh 13 = .ok (.iload_n 1, 1) := by decide +kernel
theorem dX13_fresh_14 : decode cX13_fresh 14 = .ok (.iastore, 1) := by decide +kernel
theorem dX13_fresh_15 : decode cX13_fresh 15 = .ok (.aload_n 0, 1) := by decide +kernel
theorem dX13_fresh_16 : decode cX13_fresh 16 = .ok (.getfield 217, 3) := by decide +kernel
theorem dX13_fresh_19 : decode cX13_fresh 19 = .ok (.iload_n 2, 1) := by decide +kernel
theorem dX13_fresh_20 : decode cX13_fresh 20 = .ok (.iconst (-1), 1) := by decide +kernel
theorem dX13_fresh_21 : decode cX13_fresh 21 = .ok (.iastore, 1) := by decide +kernel
theorem dX13_fresh_22 : decode cX13_fresh 22 = .ok (.iinc 2 1, 3) := by decide +kernel
theorem dX13_fresh_25 : decode cX13_fresh 25 = .ok (.goto (-23), 3) := by decide +kernel
theorem dX13_fresh_28 : decode cX13_fresh 28 = .ok (.aload_n 0, 1) := by decide +kernel
theorem dX13_fresh_29 : decode cX13_fresh 29 = .ok (.iconst 0, 1) := by decide +kernel
theorem dX13_fresh_30 : decode cX13_fresh 30 = .ok (.putfield 362, 3) := by decide +kernel
theorem dX13_fresh_33 : decode cX13_fresh 33 = .ok (.aload_n 0, 1) := by decide +kernel
theorem dX13_fresh_34 : decode cX13_fresh 34 = .ok (.iconst 0, 1) := by decide +kernel
theorem dX13_fresh_35 : decode cX13_fresh 35 = .ok (.putfield 364, 3) := by decide +kernel
theorem dX13_fresh_38 : decode cX13_fresh 38 = .ok (.return_, 1) := by decide +kernel
set_option maxHeartbeats 4000000 in
set_option maxRecDepth 100000 in
theorem S_X13_fresh (l : Launch) (D : va_G) (K : Nat → ClassId) (a : Nat → Nat) (G : gS) (p0 : Int32) (s0 : Int) (e0 : p0.toInt = s0) (h0 : 100 ≤ s0 ∧ s0 ≤ 5000) (hI : yI G) (sz : Nat) : Kv l yX13_fresh wsX13_fresh 1 40 0 0 D [.ref (a 0), .int p0] (yW K a G) (tK K) sz (fun (G' : gS) => (yI G') ∧ (gu_un ycd [29, 30, 1400, 1500] G G') ∧ (pcF p0 (yPc G'))) (fun (G' : gS) => (yW K a G')) (fun _ => (tK K)) := by
  unfold Kv
  refine g_ofW (cc := cX13_fresh) (lv := [(0, .ref (a 0)), (1, .int p0)]) (by decide) rfl (Nat.le_of_ble_eq_true rfl) rfl ?_
  intro p e s m args below meth c A Q hA hQ F hr hnm
  have hts := F.2.2.2.2.1
  have w_0 : (Cond.fieldLink RX13 362 "QuietCutModel" "wear" "I").before args s = true := hts _ (List.mem_of_getElem? (i := 3) rfl)
  have i_X13 : ∀ w ∈ u_ws RX13 TX13 73, w ∈ wsX13_fresh := fun _ h => List.mem_cons_of_mem _ (List.mem_append_right _ h)
  have w_1 : (Cond.fieldLink RX13 364 "QuietCutModel" "cuts" "I").before args s = true := hts _ (List.mem_of_getElem? (i := 4) rfl)
  have w_2 : (Cond.fieldLink RX13 214 "QuietCutModel" "height" "[I").before args s = true := hts _ (List.mem_of_getElem? (i := 1) rfl)
  have w_3 : (Cond.fieldLink RX13 217 "QuietCutModel" "leftPass" "[I").before args s = true := hts _ (List.mem_of_getElem? (i := 2) rfl)
  have J_2 : ∀ (fuel : Nat) (x2_2 : Int32) (Gj2 : gS), (2147483647 - x2_2.toInt).toNat < fuel → (0 ≤ x2_2.toInt ∧ x2_2.toInt ≤ 96) → (yI Gj2) → (gu_un ycd [1400, 1500] G Gj2) → (∀ q : Nat, (q : Int) < x2_2.toInt → Gj2 14 q = p0 ∧ Gj2 15 q = -1) → gG p l e (gR 1 0 0 40) s m args below meth c D A 3 Q 0 0 (yW K a Gj2) (tK K) [(0, .ref (a 0)), (1, .int p0), (2, .int x2_2)] 2 [] := by
    intro fuel
    induction fuel with
    | zero => intro x2_2 Gj2 hm; exact absurd hm (Nat.not_lt_zero _)
    | succ fuel_2 ih_2 =>
      intro x2_2 Gj2 hm_2 h2_2 jI2 jU2 fr
      refine g_iload_n F 2 dX13_fresh_2 rfl rfl ?_
      refine g_bipush F 96 dX13_fresh_3 (by decide) ?_
      refine v_icmp_ge F 28 dX13_fresh_5 (by decide) x2_2.toInt 96 rfl rfl (fun c1 => ?_) (fun c1 => ?_)
      · refine g_aload_n F 0 dX13_fresh_28 rfl rfl ?_
        refine g_iconst F 0 dX13_fresh_29 (by decide) ?_
        refine yp_0_28 F i_X13 w_0 dX13_fresh_30 ?_
        refine g_aload_n F 0 dX13_fresh_33 rfl rfl ?_
        refine g_iconst F 0 dX13_fresh_34 (by decide) ?_
        refine yp_0_29 F i_X13 w_1 dX13_fresh_35 ?_
        exact u_vret F hA hQ hr (gu_up (gu_up Gj2 0 28 0) 0 29 0) (⟨(gu_I.up (j := 0) (k := 29) (v := 0) (gu_I.up (j := 0) (k := 28) (v := 0) jI2 (show (0 : Int) ≤ (0 : Int32).toInt by decide) (show (0 : Int32).toInt ≤ 30000 by decide)) (show (0 : Int) ≤ (0 : Int32).toInt by decide) (show (0 : Int32).toInt ≤ 200 by decide)), (gu_un.up (j := 0) (k := 29) (v := 0) (gu_un.up (j := 0) (k := 28) (v := 0) (gu_un.tr gu_un.rf (gu_un.su jU2 rfl)) (show (29 : Nat) ∈ ([29, 30, 1400, 1500] : List Nat) by decide)) (show (30 : Nat) ∈ ([29, 30, 1400, 1500] : List Nat) by decide)), (⟨fun q hq => fr q (by omega), rfl, rfl⟩)⟩) rfl rfl dX13_fresh_38
      · refine g_aload_n F 0 dX13_fresh_8 rfl rfl ?_
        refine yg_0_23 F i_X13 w_2 dX13_fresh_9 ?_
        refine g_iload_n F 2 dX13_fresh_12 rfl rfl ?_
        refine g_iload_n F 1 dX13_fresh_13 rfl rfl ?_
        refine u_iast F 14 0 yc_14 rfl x2_2.toInt rfl (by omega) (by omega) (yW K a (gu_up Gj2 14 (x2_2.toInt).toNat p0)) (ys_14 _) dX13_fresh_14 ?_
        refine g_aload_n F 0 dX13_fresh_15 rfl rfl ?_
        refine yg_0_24 F i_X13 w_3 dX13_fresh_16 ?_
        refine g_iload_n F 2 dX13_fresh_19 rfl rfl ?_
        refine g_iconst F (-1) dX13_fresh_20 (by decide) ?_
        refine u_iast F 15 0 yc_15 rfl x2_2.toInt rfl (by omega) (by omega) (yW K a (gu_up (gu_up Gj2 14 (x2_2.toInt).toNat p0) 15 (x2_2.toInt).toNat (-1))) (ys_15 _) dX13_fresh_21 ?_
        refine u_iinc F (fun v_ => [(2, .int v_), (0, .ref (a 0)), (1, .int p0)]) dX13_fresh_22 (j := 2) rfl x2_2.toInt 1 rfl rfl (by omega) (by omega) (by decide) (fun _ => rfl) (fun y2 ey2 => ?_)
        refine g_goto F 2 dX13_fresh_25 (by decide) ?_
        refine g_locals [(0, .ref (a 0)), (1, .int p0), (2, .int y2)] [1, 2, 0] rfl ?_
        exact ih_2 y2 (gu_up (gu_up Gj2 14 (x2_2.toInt).toNat p0) 15 (x2_2.toInt).toNat (-1)) (by omega) (by have h9 := ti_rng y2; omega) (gu_I.up (j := 15) (k := (x2_2.toInt).toNat) (v := (-1)) (gu_I.up (j := 14) (k := (x2_2.toInt).toNat) (v := p0) jI2 (show ((-9998) : Int) ≤ Int32.toInt p0 by omega) (show Int32.toInt p0 ≤ 5000 by omega)) (ti_rng _).1 (ti_rng _).2) (gu_un.up (j := 15) (k := (x2_2.toInt).toNat) (v := (-1)) (gu_un.up (j := 14) (k := (x2_2.toInt).toNat) (v := p0) (gu_un.tr gu_un.rf (gu_un.su jU2 rfl)) (show (1400 : Nat) ∈ ([1400, 1500] : List Nat) by decide)) (show (1500 : Nat) ∈ ([1400, 1500] : List Nat) by decide)) (fresh_1 (by omega) (by omega) fr)
  refine g_iconst F 0 dX13_fresh_0 (by decide) ?_
  refine g_istore_n F [(2, .int 0), (0, .ref (a 0)), (1, .int p0)] dX13_fresh_1 rfl (by decide) rfl ?_
  refine g_locals [(0, .ref (a 0)), (1, .int p0), (2, .int 0)] [1, 2, 0] rfl ?_
  exact J_2 _ 0 G (Nat.lt_succ_self _) (by decide) hI gu_un.rf (fun q h1 => by have h2 : (q : Int) < 0 := h1; omega)

theorem dX13_piece_0 : decode cX13_piece 0 = .ok (.iload_n 1, 1) := by decide +kernel
theorem dX13_piece_1 : decode cX13_piece 1 = .ok (.i2l, 1) := by decide +kernel
theorem dX13_piece_2 : decode cX13_piece 2 = .ok (.ldc2_w 370, 3) := by decide +kernel
theorem dX13_piece_5 : decode cX13_piece 5 = .ok (.ldc2_w 372, 3) := by decide +kernel
theorem dX13_piece_8 : decode cX13_piece 8 = .ok (.invokestatic 61, 3) := by decide +kernel
theorem dX13_piece_11 : decode cX13_piece 11 = .ok (.ifCond .ne 6, 3) := by decide +kernel
theorem dX13_piece_14 : decode cX13_piece 14 = .ok (.bipush (-2), 2) := by decide +kernel
theorem dX13_piece_16 : decode cX13_piece 16 = .ok (.ireturn, 1) := by decide +kernel
theorem dX13_piece_17 : decode cX13_piece 17 = .ok (.aload_n 0, 1) := by decide +kernel
theorem dX13_piece_18 : decode cX13_piece 18 = .ok (.iload_n 1, 1) := by decide +kernel
theorem dX13_piece_19 : decode cX13_piece 19 = .ok (.invokevirtual 319, 3) := by decide +kernel
theorem dX13_piece_22 : decode cX13_piece 22 = .ok (.iconst 1, 1) := by decide +kernel
theorem dX13_piece_23 : decode cX13_piece 23 = .ok (.ireturn, 1) := by decide +kernel
set_option maxRecDepth 20000 in
theorem ggX13_piece_X13_fresh : GoodIn wsX13_piece wsX13_fresh := goodIn_r _ [10, 11, 12, 13, 14, 15, 16, 17, 18, 19, 20, 21, 22, 23, 24, 25, 26, 27, 28, 29, 30, 31, 32, 33, 34, 35, 36, 37, 38, 39, 40, 41, 42, 43, 44, 45, 46, 47, 48, 49, 50, 51, 52, 53, 54, 55, 56, 57, 58, 59, 60, 61, 62, 63, 64, 65, 66, 67, 68, 69, 70, 71, 72, 73, 74, 75, 76, 77, 78, 79, 80, 81, 82, 83, 84, 85, 86, 87] rfl (by decide +kernel)
set_option maxRecDepth 20000 in
theorem gX13_piece_X13_fresh : GoodIn wsX13_piece (wsV RX13 319 RX13 yX13_fresh wsX13_fresh) := goodIn_app (goodIn_of _ (by decide +kernel)) ggX13_piece_X13_fresh
set_option maxRecDepth 20000 in
theorem ggX13_piece_X13_in : GoodIn wsX13_piece wsX13_in := goodIn_r _ [6] rfl (by decide +kernel)
set_option maxRecDepth 20000 in
theorem gX13_piece_X13_in : GoodIn wsX13_piece (va_wsS RX13 61 yX13_in wsX13_in) := goodIn_app (goodIn_of _ (by decide +kernel)) ggX13_piece_X13_in
set_option maxHeartbeats 4000000 in
set_option maxRecDepth 100000 in
theorem S_X13_piece (l : Launch) (D : va_G) (K : Nat → ClassId) (a : Nat → Nat) (G : gS) (p0 : Int32) (s0 : Int) (e0 : p0.toInt = s0) (hI : yI G) (sz : Nat) : Ki l yX13_piece wsX13_piece 2 65 0 0 D [.ref (a 0), .int p0] (yW K a G) (tK K) sz (fun (r : Int32) (G' : gS) => (yI G') ∧ (gu_un ycd [29, 30, 1400, 1500] G G') ∧ ((-2) ≤ r.toInt ∧ r.toInt ≤ 1) ∧ (((r.toInt = 1 ∧ 100 ≤ s0 ∧ s0 ≤ 5000) ∨ (r.toInt = -2 ∧ (s0 < 100 ∨ 5000 < s0)))) ∧ (((r.toInt = 1 ∧ pcF p0 (yPc G')) ∨ (r.toInt = -2 ∧ pcB (yPc G) (yPc G'))))) (fun (G' : gS) => (yW K a G')) (fun _ => (tK K)) := by
  unfold Ki
  refine g_ofW (cc := cX13_piece) (lv := [(0, .ref (a 0)), (1, .int p0)]) (by decide) rfl (Nat.le_of_ble_eq_true rfl) rfl ?_
  intro p e s m args below meth c A Q hA hQ F hr hnm
  have hts := F.2.2.2.2.1
  have w_0 : (Cond.constantLong RX13 370 (100)).before args s = true := hts _ (List.mem_of_getElem? (i := 1) rfl)
  have w_1 : (Cond.constantLong RX13 372 (5000)).before args s = true := hts _ (List.mem_of_getElem? (i := 2) rfl)
  have rg0 : -2147483648 ≤ s0 ∧ s0 ≤ 2147483647 := e0 ▸ ti_rng p0
  refine g_iload_n F 1 dX13_piece_0 rfl rfl ?_
  refine g_i2l F dX13_piece_1 ?_
  refine g_ldc2 F w_0 dX13_piece_2 ?_
  refine g_ldc2 F w_1 dX13_piece_5 ?_
  refine u_call0 (k := 0) (n := 0) (As := [.long (Int32.toInt64 p0), .long 100, .long 5000]) (st := []) F (fun sz => S_X13_in l D (Int32.toInt64 p0) s0 100 100 5000 5000 (ti_i2l e0) rfl rfl sz) (va_cwS 3 hts gX13_piece_X13_in rfl rfl rfl (by decide +kernel) ⟨Nat.le_of_ble_eq_true rfl, Nat.le_of_ble_eq_true rfl⟩) rfl (Nat.le_of_ble_eq_true rfl) ⟨Nat.zero_le _, Nat.zero_le _⟩ dX13_piece_8 (fun r1 _ hw2 => ?_)
  rcases hw2 with ⟨rfl, q4⟩ | ⟨rfl, q5⟩
  · refine v_if_ne F 17 dX13_piece_11 (by decide) 1 rfl (fun c6 => ?_) (fun c6 => absurd c6 (by decide))
    refine g_aload_n F 0 dX13_piece_17 rfl rfl ?_
    refine g_iload_n F 1 dX13_piece_18 rfl rfl ?_
    refine u_callVv (k := 0) (n := 0) (b := a 0) (As := [.int p0]) (st := []) F (fun sz => S_X13_fresh l D K a G p0 s0 e0 (by omega) hI sz) (cwV 1 hts gX13_piece_X13_fresh rfl rfl rfl (by decide +kernel) ⟨Nat.le_of_ble_eq_true rfl, Nat.le_of_ble_eq_true rfl⟩) rfl 0 yc_0 rfl (Nat.le_of_ble_eq_true rfl) ⟨Nat.zero_le _, Nat.zero_le _⟩ dX13_piece_19 (fun G9 hw8 => ?_)
    have hI10 : yI G9 := hw8.1
    have hU11 : gu_un ycd [29, 30, 1400, 1500] G G9 := hw8.2.1
    have hp12 := hw8.2.2
    have q13 : pcF p0 (yPc G9) := hp12
    clear hp12 hw8
    refine g_iconst F 1 dX13_piece_22 (by decide) ?_
    exact u_iret F hA hQ hr G9 (⟨hI10, (gu_un.tr gu_un.rf (gu_un.su hU11 rfl)), (by decide), (by show ((1 = 1 ∧ 100 ≤ s0 ∧ s0 ≤ 5000) ∨ (1 = -2 ∧ (s0 < 100 ∨ 5000 < s0))); (first | omega | (simp only [Int32.reduceToInt, true_and, and_true, ne_eq, not_true_eq_false, false_and, or_false, false_or, true_or, or_true, false_implies] <;> omega))), (Or.inl ⟨by decide, q13⟩)⟩) rfl rfl dX13_piece_23
  · refine v_if_ne F 17 dX13_piece_11 (by decide) 0 rfl (fun c14 => absurd c14 (by decide)) (fun c14 => ?_)
    refine g_bipush F (-2) dX13_piece_14 (by decide) ?_
    exact u_iret F hA hQ hr G (⟨hI, gu_un.rf, (by decide), (by show (((-2) = 1 ∧ 100 ≤ s0 ∧ s0 ≤ 5000) ∨ ((-2) = -2 ∧ (s0 < 100 ∨ 5000 < s0))); (first | omega | (simp only [Int32.reduceToInt, true_and, and_true, ne_eq, not_true_eq_false, false_and, or_false, false_or, true_or, or_true, false_implies] <;> omega))), (Or.inr ⟨by decide, pcB.rf⟩)⟩) rfl rfl dX13_piece_16

theorem dX13_at_0 : decode cX13_at 0 = .ok (.bipush 16, 2) := by decide +kernel
theorem dX13_at_2 : decode cX13_at 2 = .ok (.iload_n 0, 1) := by decide +kernel
theorem dX13_at_3 : decode cX13_at 3 = .ok (.imul, 1) := by decide +kernel
theorem dX13_at_4 : decode cX13_at 4 = .ok (.iload_n 1, 1) := by decide +kernel
theorem dX13_at_5 : decode cX13_at 5 = .ok (.iadd, 1) := by decide +kernel
theorem dX13_at_6 : decode cX13_at 6 = .ok (.ireturn, 1) := by decide +kernel
set_option maxHeartbeats 4000000 in
set_option maxRecDepth 100000 in
theorem S_X13_at_b5_b15 (l : Launch) (D : va_G)  (p0 : Int32) (s0 : Int) (p1 : Int32) (s1 : Int) (e0 : p0.toInt = s0) (h0 : 0 ≤ s0 ∧ s0 ≤ 5) (e1 : p1.toInt = s1) (h1 : 0 ≤ s1 ∧ s1 ≤ 15) (sz : Nat) : Ki l yX13_at wsX13_at 1 40 0 0 D [.int p0, .int p1] [] [] sz (fun (r : Int32) (_ : Unit) => (0 ≤ r.toInt ∧ r.toInt ≤ 95) ∧ (r.toInt = 16 * s0 + s1)) (fun (_ : Unit) => []) (fun _ => []) := by
  unfold Ki
  refine g_ofW (cc := cX13_at) (lv := [(0, .int p0), (1, .int p1)]) (by decide) rfl (Nat.le_of_ble_eq_true rfl) rfl ?_
  intro p e s m args below meth c A Q hA hQ F hr hnm
  have hts := F.2.2.2.2.1
  refine g_bipush F 16 dX13_at_0 (by decide) ?_
  refine g_iload_n F 0 dX13_at_2 rfl rfl ?_
  refine u_imul F dX13_at_3 16 s0 rfl e0 (by omega) (by omega) (fun y1 ey1 => ?_)
  refine g_iload_n F 1 dX13_at_4 rfl rfl ?_
  refine u_iadd F dX13_at_5 y1.toInt s1 rfl e1 (by omega) (by omega) (fun y2 ey2 => ?_)
  exact u_iret F hA hQ hr () (⟨(by have h9 := ti_rng y2; omega), (by omega)⟩) rfl rfl dX13_at_6

theorem dX13_height_0 : decode cX13_height 0 = .ok (.aload_n 0, 1) := by decide +kernel
theorem dX13_height_1 : decode cX13_height 1 = .ok (.iload_n 1, 1) := by decide +kernel
theorem dX13_height_2 : decode cX13_height 2 = .ok (.iload_n 2, 1) := by decide +kernel
theorem dX13_height_3 : decode cX13_height 3 = .ok (.invokevirtual 374, 3) := by decide +kernel
theorem dX13_height_6 : decode cX13_height 6 = .ok (.ifCond .eq 16, 3) := by decide +kernel
theorem dX13_height_9 : decode cX13_height 9 = .ok (.aload_n 0, 1) := by decide +kernel
theorem dX13_height_10 : decode cX13_height 10 = .ok (.getfield 214, 3) := by decide +kernel
theorem dX13_height_13 : decode cX13_height 13 = .ok (.iload_n 1, 1) := by decide +kernel
theorem dX13_height_14 : decode cX13_height 14 = .ok (.iload_n 2, 1) := by decide +kernel
theorem dX13_height_15 : decode cX13_height 15 = .ok (.invokestatic 378, 3) := by decide +kernel
theorem dX13_height_18 : decode cX13_height 18 = .ok (.iaload, 1) := by decide +kernel
theorem dX13_height_19 : decode cX13_height 19 = .ok (.goto 6, 3) := by decide +kernel
theorem dX13_height_22 : decode cX13_height 22 = .ok (.ldc_w 381, 3) := by decide +kernel
theorem dX13_height_25 : decode cX13_height 25 = .ok (.ireturn, 1) := by decide +kernel
set_option maxRecDepth 20000 in
theorem ggX13_height_X13_at : GoodIn wsX13_height wsX13_at := goodIn_r _ [18] rfl (by decide +kernel)
set_option maxRecDepth 20000 in
theorem gX13_height_X13_at : GoodIn wsX13_height (va_wsS RX13 378 yX13_at wsX13_at) := goodIn_app (goodIn_of _ (by decide +kernel)) ggX13_height_X13_at
set_option maxRecDepth 20000 in
theorem ggX13_height_X13_isPlace : GoodIn wsX13_height wsX13_isPlace := goodIn_r _ [7, 8, 9, 10, 11, 6, 12, 13, 14, 15, 19, 20, 21, 22, 23, 24, 25, 26, 27, 28, 29, 30, 31, 32, 33, 34, 35, 36, 37, 38, 39, 40, 41, 42, 43, 44, 45, 46, 47, 48, 49, 50, 51, 52, 53, 54, 55, 56, 57, 58, 59, 60, 61, 62, 63, 64, 65, 66, 67, 68, 69, 70, 71, 72, 73, 74, 75, 76, 77, 78, 79, 80, 81, 82, 83, 84, 85, 86, 87, 88, 89, 90, 91] rfl (by decide +kernel)
set_option maxRecDepth 20000 in
theorem gX13_height_X13_isPlace : GoodIn wsX13_height (wsV RX13 374 RX13 yX13_isPlace wsX13_isPlace) := goodIn_app (goodIn_of _ (by decide +kernel)) ggX13_height_X13_isPlace
set_option maxHeartbeats 4000000 in
set_option maxRecDepth 100000 in
theorem S_X13_height (l : Launch) (D : va_G) (K : Nat → ClassId) (a : Nat → Nat) (G : gS) (p0 : Int32) (s0 : Int) (p1 : Int32) (s1 : Int) (e0 : p0.toInt = s0) (e1 : p1.toInt = s1) (hI : yI G) (sz : Nat) : Ki l yX13_height wsX13_height 4 108 0 0 D [.ref (a 0), .int p0, .int p1] (yW K a G) (tK K) sz (fun (r : Int32) (_ : Unit) => ((-100000) ≤ r.toInt ∧ r.toInt ≤ 5000) ∧ ((((0 ≤ s0 ∧ s0 < (G 3 1).toInt ∧ 0 ≤ s1 ∧ s1 < (G 3 0).toInt) ∧ r.toInt = ((G 14) (16 * s0 + s1).toNat).toInt) ∨ (¬ (0 ≤ s0 ∧ s0 < (G 3 1).toInt ∧ 0 ≤ s1 ∧ s1 < (G 3 0).toInt) ∧ r.toInt = -100000)))) (fun (_ : Unit) => (yW K a G)) (fun _ => (tK K)) := by
  unfold Ki
  refine g_ofW (cc := cX13_height) (lv := [(0, .ref (a 0)), (1, .int p0), (2, .int p1)]) (by decide) rfl (Nat.le_of_ble_eq_true rfl) rfl ?_
  intro p e s m args below meth c A Q hA hQ F hr hnm
  have hts := F.2.2.2.2.1
  have w_0 : (Cond.fieldLink RX13 214 "QuietCutModel" "height" "[I").before args s = true := hts _ (List.mem_of_getElem? (i := 1) rfl)
  have i_X13 : ∀ w ∈ u_ws RX13 TX13 73, w ∈ wsX13_height := fun _ h => List.mem_cons_of_mem _ (List.mem_append_right _ h)
  have w_1 : (Cond.constant RX13 381 (-100000)).before args s = true := hts _ (List.mem_of_getElem? (i := 2) rfl)
  have rg0 : -2147483648 ≤ s0 ∧ s0 ≤ 2147483647 := e0 ▸ ti_rng p0
  have rg1 : -2147483648 ≤ s1 ∧ s1 ≤ 2147483647 := e1 ▸ ti_rng p1
  have b1 : (4 : Int) ≤ (G 3 0).toInt ∧ (G 3 0).toInt ≤ 16 := hI 3 0
  have b2 : (1 : Int) ≤ (G 3 1).toInt ∧ (G 3 1).toInt ≤ 6 := hI 3 1
  refine g_aload_n F 0 dX13_height_0 rfl rfl ?_
  refine g_iload_n F 1 dX13_height_1 rfl rfl ?_
  refine g_iload_n F 2 dX13_height_2 rfl rfl ?_
  refine u_callVi (k := 0) (n := 0) (b := a 0) (As := [.int p0, .int p1]) (st := []) F (fun sz => S_X13_isPlace l D K a G p0 s0 p1 s1 e0 e1 hI sz) (cwV 2 hts gX13_height_X13_isPlace rfl rfl rfl (by decide +kernel) ⟨Nat.le_of_ble_eq_true rfl, Nat.le_of_ble_eq_true rfl⟩) rfl 0 yc_0 rfl (Nat.le_of_ble_eq_true rfl) ⟨Nat.zero_le _, Nat.zero_le _⟩ dX13_height_3 (fun r3 _ hw4 => ?_)
  rcases hw4 with ⟨rfl, q6⟩ | ⟨rfl, q7⟩
  · have q6 : (0 ≤ s0 ∧ s0 < (G 3 1).toInt ∧ 0 ≤ s1 ∧ s1 < (G 3 0).toInt) := q6
    refine v_if_eq F 22 dX13_height_6 (by decide) 1 rfl (fun c8 => absurd c8 (by decide)) (fun c8 => ?_)
    refine g_aload_n F 0 dX13_height_9 rfl rfl ?_
    refine yg_0_23 F i_X13 w_0 dX13_height_10 ?_
    refine g_iload_n F 1 dX13_height_13 rfl rfl ?_
    refine g_iload_n F 2 dX13_height_14 rfl rfl ?_
    refine u_call0 (k := 0) (n := 0) (As := [.int p0, .int p1]) (st := [.ref (a 14)]) F (fun sz => S_X13_at_b5_b15 l D p0 s0 p1 s1 e0 (by omega) e1 (by omega) sz) (va_cwS 2 hts gX13_height_X13_at rfl rfl rfl (by decide +kernel) ⟨Nat.le_of_ble_eq_true rfl, Nat.le_of_ble_eq_true rfl⟩) rfl (Nat.le_of_ble_eq_true rfl) ⟨Nat.zero_le _, Nat.zero_le _⟩ dX13_height_15 (fun r9 _ hw10 => ?_)
    have rg12 := hw10.1
    have rg13 := hw10.2
    clear hw10
    refine u1_iald F 14 0 yc_14 rfl r9.toInt rfl (by omega) (by omega) dX13_height_18 ((G 14) ((16 * s0 + s1)).toNat) (by rw [show r9.toInt = (16 * s0 + s1) by omega] <;> rfl) ?_
    have b14 : ((-9998) : Int) ≤ ((G 14) ((16 * s0 + s1)).toNat).toInt ∧ ((G 14) ((16 * s0 + s1)).toNat).toInt ≤ 5000 := hI 14 _
    refine g_goto F 25 dX13_height_19 (by decide) ?_
    exact u_iret F hA hQ hr () (⟨(by have h9 := ti_rng ((G 14) ((16 * s0 + s1)).toNat); omega), (by show (((0 ≤ s0 ∧ s0 < (G 3 1).toInt ∧ 0 ≤ s1 ∧ s1 < (G 3 0).toInt) ∧ ((G 14) ((16 * s0 + s1)).toNat).toInt = ((G 14) (16 * s0 + s1).toNat).toInt) ∨ (¬ (0 ≤ s0 ∧ s0 < (G 3 1).toInt ∧ 0 ≤ s1 ∧ s1 < (G 3 0).toInt) ∧ ((G 14) ((16 * s0 + s1)).toNat).toInt = -100000)); (first | omega | (simp only [Int32.reduceToInt, true_and, and_true, ne_eq, not_true_eq_false, false_and, or_false, false_or, true_or, or_true, false_implies] <;> omega)))⟩) rfl rfl dX13_height_25
  · have q7 : ¬ (0 ≤ s0 ∧ s0 < (G 3 1).toInt ∧ 0 ≤ s1 ∧ s1 < (G 3 0).toInt) := q7
    refine v_if_eq F 22 dX13_height_6 (by decide) 0 rfl (fun c15 => ?_) (fun c15 => absurd c15 (by decide))
    refine g_ldcw F w_1 dX13_height_22 ?_
    exact u_iret F hA hQ hr () (⟨(by decide), (by show (((0 ≤ s0 ∧ s0 < (G 3 1).toInt ∧ 0 ≤ s1 ∧ s1 < (G 3 0).toInt) ∧ (-100000) = ((G 14) (16 * s0 + s1).toNat).toInt) ∨ (¬ (0 ≤ s0 ∧ s0 < (G 3 1).toInt ∧ 0 ≤ s1 ∧ s1 < (G 3 0).toInt) ∧ (-100000) = -100000)); (first | omega | (simp only [Int32.reduceToInt, true_and, and_true, ne_eq, not_true_eq_false, false_and, or_false, false_or, true_or, or_true, false_implies] <;> omega)))⟩) rfl rfl dX13_height_25

theorem dX13_set_0 : decode cX13_set 0 = .ok (.aload_n 0, 1) := by decide +kernel
theorem dX13_set_1 : decode cX13_set 1 = .ok (.iload_n 1, 1) := by decide +kernel
theorem dX13_set_2 : decode cX13_set 2 = .ok (.iload_n 2, 1) := by decide +kernel
theorem dX13_set_3 : decode cX13_set 3 = .ok (.invokevirtual 374, 3) := by decide +kernel
theorem dX13_set_6 : decode cX13_set 6 = .ok (.ifCond .eq 17, 3) := by decide +kernel
theorem dX13_set_9 : decode cX13_set 9 = .ok (.iload_n 3, 1) := by decide +kernel
theorem dX13_set_10 : decode cX13_set 10 = .ok (.i2l, 1) := by decide +kernel
theorem dX13_set_11 : decode cX13_set 11 = .ok (.ldc2_w 370, 3) := by decide +kernel
theorem dX13_set_14 : decode cX13_set 14 = .ok (.ldc2_w 372, 3) := by decide +kernel
theorem dX13_set_17 : decode cX13_set 17 = .ok (.invokestatic 61, 3) := by decide +kernel
theorem dX13_set_20 : decode cX13_set 20 = .ok (.ifCond .ne 7, 3) := by decide +kernel
theorem dX13_set_23 : decode cX13_set 23 = .ok (.ldc_w 381, 3) := by decide +kernel
theorem dX13_set_26 : decode cX13_set 26 = .ok (.ireturn, 1) := by decide +kernel
theorem dX13_set_27 : decode cX13_set 27 = .ok (.aload_n 0, 1) := by decide +kernel
theorem dX13_set_28 : decode cX13_set 28 = .ok (.getfield 214, 3) := by decide +kernel
theorem dX13_set_31 : decode cX13_set 31 = .ok (.iload_n 1, 1) := by decide +kernel
theorem dX13_set_32 : decode cX13_set 32 = .ok (.iload_n 2, 1) := by decide +kernel
theorem dX13_set_33 : decode cX13_set 33 = .ok (.invokestatic 378, 3) := by decide +kernel
theorem dX13_set_36 : decode cX13_set 36 = .ok (.iaload, 1) := by decide +kernel
theorem dX13_set_37 : decode cX13_set 37 = .ok (.istore 4, 2) := by decide +kernel
theorem dX13_set_39 : decode cX13_set 39 = .ok (.aload_n 0, 1) := by decide +kernel
theorem dX13_set_40 : decode cX13_set 40 = .ok (.getfield 214, 3) := by decide +kernel
theorem dX13_set_43 : decode cX13_set 43 = .ok (.iload_n 1, 1) := by decide +kernel
theorem dX13_set_44 : decode cX13_set 44 = .ok (.iload_n 2, 1) := by decide +kernel
theorem dX13_set_45 : decode cX13_set 45 = .ok (.invokestatic 378, 3) := by decide +kernel
theorem dX13_set_48 : decode cX13_set 48 = .ok (.iload_n 3, 1) := by decide +kernel
theorem dX13_set_49 : decode cX13_set 49 = .ok (.iastore, 1) := by decide +kernel
theorem dX13_set_50 : decode cX13_set 50 = .ok (.aload_n 0, 1) := by decide +kernel
theorem dX13_set_51 : decode cX13_set 51 = .ok (.getfield 217, 3) := by decide +kernel
theorem dX13_set_54 : decode cX13_set 54 = .ok (.iload_n 1, 1) := by decide +kernel
theorem dX13_set_55 : decode cX13_set 55 = .ok (.iload_n 2, 1) := by decide +kernel
theorem dX13_set_56 : decode cX13_set 56 = .ok (.invokestatic 378, 3) := by decide +kernel
theorem dX13_set_59 : decode cX13_set 59 = .ok (.iconst (-1), 1) := by decide +kernel
theorem dX13_set_60 : decode cX13_set 60 = .ok (.iastore, 1) := by decide +kernel
theorem dX13_set_61 : decode cX13_set 61 = .ok (.iload 4, 2) := by decide +kernel
theorem dX13_set_63 : decode cX13_set 63 = .ok (.ireturn, 1) := by decide +kernel
set_option maxRecDepth 20000 in
theorem ggX13_set_X13_at : GoodIn wsX13_set wsX13_at := goodIn_r _ [21] rfl (by decide +kernel)
set_option maxRecDepth 20000 in
theorem gX13_set_X13_at : GoodIn wsX13_set (va_wsS RX13 378 yX13_at wsX13_at) := goodIn_app (goodIn_of _ (by decide +kernel)) ggX13_set_X13_at
set_option maxRecDepth 20000 in
theorem ggX13_set_X13_in : GoodIn wsX13_set wsX13_in := goodIn_r _ [18] rfl (by decide +kernel)
set_option maxRecDepth 20000 in
theorem gX13_set_X13_in : GoodIn wsX13_set (va_wsS RX13 61 yX13_in wsX13_in) := goodIn_app (goodIn_of _ (by decide +kernel)) ggX13_set_X13_in
set_option maxRecDepth 20000 in
theorem ggX13_set_X13_isPlace : GoodIn wsX13_set wsX13_isPlace := goodIn_r _ [10, 11, 12, 13, 14, 9, 15, 16, 17, 18, 22, 23, 24, 25, 26, 27, 28, 29, 30, 31, 32, 33, 34, 35, 36, 37, 38, 39, 40, 41, 42, 43, 44, 45, 46, 47, 48, 49, 50, 51, 52, 53, 54, 55, 56, 57, 58, 59, 60, 61, 62, 63, 64, 65, 66, 67, 68, 69, 70, 71, 72, 73, 74, 75, 76, 77, 78, 79, 80, 81, 82, 83, 84, 85, 86, 87, 88, 89, 90, 91, 92, 93, 94] rfl (by decide +kernel)
set_option maxRecDepth 20000 in
theorem gX13_set_X13_isPlace : GoodIn wsX13_set (wsV RX13 374 RX13 yX13_isPlace wsX13_isPlace) := goodIn_app (goodIn_of _ (by decide +kernel)) ggX13_set_X13_isPlace
set_option maxHeartbeats 4000000 in
set_option maxRecDepth 100000 in
theorem S_X13_set (l : Launch) (D : va_G) (K : Nat → ClassId) (a : Nat → Nat) (G : gS) (p0 : Int32) (s0 : Int) (p1 : Int32) (s1 : Int) (p2 : Int32) (s2 : Int) (e0 : p0.toInt = s0) (e1 : p1.toInt = s1) (e2 : p2.toInt = s2) (hI : yI G) (sz : Nat) : Ki l yX13_set wsX13_set 4 108 0 0 D [.ref (a 0), .int p0, .int p1, .int p2] (yW K a G) (tK K) sz (fun (r : Int32) (G' : gS) => (yI G') ∧ (gu_un ycd [1400, 1500] G G') ∧ ((-100000) ≤ r.toInt ∧ r.toInt ≤ 5000) ∧ ((((0 ≤ s0 ∧ s0 < (G 3 1).toInt ∧ 0 ≤ s1 ∧ s1 < (G 3 0).toInt) ∧ 100 ≤ s2 ∧ s2 ≤ 5000 ∧ r.toInt = ((G 14) (16 * s0 + s1).toNat).toInt ∧ pcU (16 * s0 + s1).toNat p2 (yPc G) (yPc G')) ∨ (¬ ((0 ≤ s0 ∧ s0 < (G 3 1).toInt ∧ 0 ≤ s1 ∧ s1 < (G 3 0).toInt) ∧ 100 ≤ s2 ∧ s2 ≤ 5000) ∧ r.toInt = -100000 ∧ pcB (yPc G) (yPc G'))))) (fun (G' : gS) => (yW K a G')) (fun _ => (tK K)) := by
  unfold Ki
  refine g_ofW (cc := cX13_set) (lv := [(0, .ref (a 0)), (1, .int p0), (2, .int p1), (3, .int p2)]) (by decide) rfl (Nat.le_of_ble_eq_true rfl) rfl ?_
  intro p e s m args below meth c A Q hA hQ F hr hnm
  have hts := F.2.2.2.2.1
  have w_0 : (Cond.constantLong RX13 370 (100)).before args s = true := hts _ (List.mem_of_getElem? (i := 1) rfl)
  have w_1 : (Cond.constantLong RX13 372 (5000)).before args s = true := hts _ (List.mem_of_getElem? (i := 2) rfl)
  have w_2 : (Cond.fieldLink RX13 214 "QuietCutModel" "height" "[I").before args s = true := hts _ (List.mem_of_getElem? (i := 4) rfl)
  have i_X13 : ∀ w ∈ u_ws RX13 TX13 73, w ∈ wsX13_set := fun _ h => List.mem_cons_of_mem _ (List.mem_append_right _ h)
  have w_3 : (Cond.fieldLink RX13 217 "QuietCutModel" "leftPass" "[I").before args s = true := hts _ (List.mem_of_getElem? (i := 5) rfl)
  have w_4 : (Cond.constant RX13 381 (-100000)).before args s = true := hts _ (List.mem_of_getElem? (i := 3) rfl)
  have rg0 : -2147483648 ≤ s0 ∧ s0 ≤ 2147483647 := e0 ▸ ti_rng p0
  have rg1 : -2147483648 ≤ s1 ∧ s1 ≤ 2147483647 := e1 ▸ ti_rng p1
  have rg2 : -2147483648 ≤ s2 ∧ s2 ≤ 2147483647 := e2 ▸ ti_rng p2
  have b1 : (4 : Int) ≤ (G 3 0).toInt ∧ (G 3 0).toInt ≤ 16 := hI 3 0
  have b2 : (1 : Int) ≤ (G 3 1).toInt ∧ (G 3 1).toInt ≤ 6 := hI 3 1
  refine g_aload_n F 0 dX13_set_0 rfl rfl ?_
  refine g_iload_n F 1 dX13_set_1 rfl rfl ?_
  refine g_iload_n F 2 dX13_set_2 rfl rfl ?_
  refine u_callVi (k := 0) (n := 0) (b := a 0) (As := [.int p0, .int p1]) (st := []) F (fun sz => S_X13_isPlace l D K a G p0 s0 p1 s1 e0 e1 hI sz) (cwV 2 hts gX13_set_X13_isPlace rfl rfl rfl (by decide +kernel) ⟨Nat.le_of_ble_eq_true rfl, Nat.le_of_ble_eq_true rfl⟩) rfl 0 yc_0 rfl (Nat.le_of_ble_eq_true rfl) ⟨Nat.zero_le _, Nat.zero_le _⟩ dX13_set_3 (fun r3 _ hw4 => ?_)
  rcases hw4 with ⟨rfl, q6⟩ | ⟨rfl, q7⟩
  · have q6 : (0 ≤ s0 ∧ s0 < (G 3 1).toInt ∧ 0 ≤ s1 ∧ s1 < (G 3 0).toInt) := q6
    refine v_if_eq F 23 dX13_set_6 (by decide) 1 rfl (fun c8 => absurd c8 (by decide)) (fun c8 => ?_)
    refine g_iload_n F 3 dX13_set_9 rfl rfl ?_
    refine g_i2l F dX13_set_10 ?_
    refine g_ldc2 F w_0 dX13_set_11 ?_
    refine g_ldc2 F w_1 dX13_set_14 ?_
    refine u_call0 (k := 0) (n := 0) (As := [.long (Int32.toInt64 p2), .long 100, .long 5000]) (st := []) F (fun sz => S_X13_in l D (Int32.toInt64 p2) s2 100 100 5000 5000 (ti_i2l e2) rfl rfl sz) (va_cwS 3 hts gX13_set_X13_in rfl rfl rfl (by decide +kernel) ⟨Nat.le_of_ble_eq_true rfl, Nat.le_of_ble_eq_true rfl⟩) rfl (Nat.le_of_ble_eq_true rfl) ⟨Nat.zero_le _, Nat.zero_le _⟩ dX13_set_17 (fun r9 _ hw10 => ?_)
    rcases hw10 with ⟨rfl, q12⟩ | ⟨rfl, q13⟩
    · refine v_if_ne F 27 dX13_set_20 (by decide) 1 rfl (fun c14 => ?_) (fun c14 => absurd c14 (by decide))
      refine g_aload_n F 0 dX13_set_27 rfl rfl ?_
      refine yg_0_23 F i_X13 w_2 dX13_set_28 ?_
      refine g_iload_n F 1 dX13_set_31 rfl rfl ?_
      refine g_iload_n F 2 dX13_set_32 rfl rfl ?_
      refine u_call0 (k := 0) (n := 0) (As := [.int p0, .int p1]) (st := [.ref (a 14)]) F (fun sz => S_X13_at_b5_b15 l D p0 s0 p1 s1 e0 (by omega) e1 (by omega) sz) (va_cwS 2 hts gX13_set_X13_at rfl rfl rfl (by decide +kernel) ⟨Nat.le_of_ble_eq_true rfl, Nat.le_of_ble_eq_true rfl⟩) rfl (Nat.le_of_ble_eq_true rfl) ⟨Nat.zero_le _, Nat.zero_le _⟩ dX13_set_33 (fun r15 _ hw16 => ?_)
      have rg18 := hw16.1
      have rg19 := hw16.2
      clear hw16
      refine u1_iald F 14 0 yc_14 rfl r15.toInt rfl (by omega) (by omega) dX13_set_36 ((G 14) ((16 * s0 + s1)).toNat) (by rw [show r15.toInt = (16 * s0 + s1) by omega] <;> rfl) ?_
      have b20 : ((-9998) : Int) ≤ ((G 14) ((16 * s0 + s1)).toNat).toInt ∧ ((G 14) ((16 * s0 + s1)).toNat).toInt ≤ 5000 := hI 14 _
      refine g_istore F [(4, .int ((G 14) ((16 * s0 + s1)).toNat)), (0, .ref (a 0)), (1, .int p0), (2, .int p1), (3, .int p2)] dX13_set_37 (by decide) rfl ?_
      refine g_aload_n F 1 dX13_set_39 rfl rfl ?_
      refine yg_0_23 F i_X13 w_2 dX13_set_40 ?_
      refine g_iload_n F 2 dX13_set_43 rfl rfl ?_
      refine g_iload_n F 3 dX13_set_44 rfl rfl ?_
      refine u_call0 (k := 0) (n := 0) (As := [.int p0, .int p1]) (st := [.ref (a 14)]) F (fun sz => S_X13_at_b5_b15 l D p0 s0 p1 s1 e0 (by omega) e1 (by omega) sz) (va_cwS 2 hts gX13_set_X13_at rfl rfl rfl (by decide +kernel) ⟨Nat.le_of_ble_eq_true rfl, Nat.le_of_ble_eq_true rfl⟩) rfl (Nat.le_of_ble_eq_true rfl) ⟨Nat.zero_le _, Nat.zero_le _⟩ dX13_set_45 (fun r21 _ hw22 => ?_)
      have rg24 := hw22.1
      have rg25 := hw22.2
      clear hw22
      refine g_iload_n F 4 dX13_set_48 rfl rfl ?_
      refine u_iast F 14 0 yc_14 rfl r21.toInt rfl (by omega) (by omega) (yW K a (gu_up G 14 (r21.toInt).toNat p2)) (ys_14 _) dX13_set_49 ?_
      refine g_aload_n F 1 dX13_set_50 rfl rfl ?_
      refine yg_0_24 F i_X13 w_3 dX13_set_51 ?_
      refine g_iload_n F 2 dX13_set_54 rfl rfl ?_
      refine g_iload_n F 3 dX13_set_55 rfl rfl ?_
      refine u_call0 (k := 0) (n := 0) (As := [.int p0, .int p1]) (st := [.ref (a 15)]) F (fun sz => S_X13_at_b5_b15 l D p0 s0 p1 s1 e0 (by omega) e1 (by omega) sz) (va_cwS 2 hts gX13_set_X13_at rfl rfl rfl (by decide +kernel) ⟨Nat.le_of_ble_eq_true rfl, Nat.le_of_ble_eq_true rfl⟩) rfl (Nat.le_of_ble_eq_true rfl) ⟨Nat.zero_le _, Nat.zero_le _⟩ dX13_set_56 (fun r26 _ hw27 => ?_)
      have rg29 := hw27.1
      have rg30 := hw27.2
      clear hw27
      refine g_iconst F (-1) dX13_set_59 (by decide) ?_
      refine u_iast F 15 0 yc_15 rfl r26.toInt rfl (by omega) (by omega) (yW K a (gu_up (gu_up G 14 (r21.toInt).toNat p2) 15 (r26.toInt).toNat (-1))) (ys_15 _) dX13_set_60 ?_
      refine g_iload F 0 dX13_set_61 rfl ?_
      exact u_iret F hA hQ hr (gu_up (gu_up G 14 (r21.toInt).toNat p2) 15 (r26.toInt).toNat (-1)) (⟨(gu_I.up (j := 15) (k := (r26.toInt).toNat) (v := (-1)) (gu_I.up (j := 14) (k := (r21.toInt).toNat) (v := p2) hI (show ((-9998) : Int) ≤ Int32.toInt p2 by omega) (show Int32.toInt p2 ≤ 5000 by omega)) (ti_rng _).1 (ti_rng _).2), (gu_un.up (j := 15) (k := (r26.toInt).toNat) (v := (-1)) (gu_un.up (j := 14) (k := (r21.toInt).toNat) (v := p2) gu_un.rf (show (1400 : Nat) ∈ ([1400, 1500] : List Nat) by decide)) (show (1500 : Nat) ∈ ([1400, 1500] : List Nat) by decide)), (by have h9 := ti_rng ((G 14) ((16 * s0 + s1)).toNat); omega), (Or.inl ⟨by omega, by omega, by omega, rfl, pcU_upy (by omega) (by omega)⟩)⟩) rfl rfl dX13_set_63
    · refine v_if_ne F 27 dX13_set_20 (by decide) 0 rfl (fun c31 => absurd c31 (by decide)) (fun c31 => ?_)
      refine g_ldcw F w_4 dX13_set_23 ?_
      exact u_iret F hA hQ hr G (⟨hI, gu_un.rf, (by decide), (Or.inr ⟨by omega, by decide, pcB.rf⟩)⟩) rfl rfl dX13_set_26
  · have q7 : ¬ (0 ≤ s0 ∧ s0 < (G 3 1).toInt ∧ 0 ≤ s1 ∧ s1 < (G 3 0).toInt) := q7
    refine v_if_eq F 23 dX13_set_6 (by decide) 0 rfl (fun c32 => ?_) (fun c32 => absurd c32 (by decide))
    refine g_ldcw F w_4 dX13_set_23 ?_
    exact u_iret F hA hQ hr G (⟨hI, gu_un.rf, (by decide), (Or.inr ⟨by omega, by decide, pcB.rf⟩)⟩) rfl rfl dX13_set_26

theorem dX13_change_0 : decode cX13_change 0 = .ok (.aload_n 0, 1) := by decide +kernel
theorem dX13_change_1 : decode cX13_change 1 = .ok (.getfield 362, 3) := by decide +kernel
theorem dX13_change_4 : decode cX13_change 4 = .ok (.istore_n 1, 1) := by decide +kernel
theorem dX13_change_5 : decode cX13_change 5 = .ok (.aload_n 0, 1) := by decide +kernel
theorem dX13_change_6 : decode cX13_change 6 = .ok (.iconst 0, 1) := by decide +kernel
theorem dX13_change_7 : decode cX13_change 7 = .ok (.putfield 362, 3) := by decide +kernel
theorem dX13_change_10 : decode cX13_change 10 = .ok (.iload_n 1, 1) := by decide +kernel
theorem dX13_change_11 : decode cX13_change 11 = .ok (.ireturn, 1) := by decide +kernel
set_option maxHeartbeats 4000000 in
set_option maxRecDepth 100000 in
theorem S_X13_change (l : Launch) (D : va_G) (K : Nat → ClassId) (a : Nat → Nat) (G : gS) (hI : yI G) (sz : Nat) : Ki l yX13_change wsX13_change 1 40 0 0 D [.ref (a 0)] (yW K a G) (tK K) sz (fun (r : Int32) (G' : gS) => (yI G') ∧ (gu_un ycd [29] G G') ∧ (0 ≤ r.toInt ∧ r.toInt ≤ 30000) ∧ ((r.toInt = (G 0 28).toInt ∧ pcW 0 (yPc G) (yPc G')))) (fun (G' : gS) => (yW K a G')) (fun _ => (tK K)) := by
  unfold Ki
  refine g_ofW (cc := cX13_change) (lv := [(0, .ref (a 0))]) (by decide) rfl (Nat.le_of_ble_eq_true rfl) rfl ?_
  intro p e s m args below meth c A Q hA hQ F hr hnm
  have hts := F.2.2.2.2.1
  have w_0 : (Cond.fieldLink RX13 362 "QuietCutModel" "wear" "I").before args s = true := hts _ (List.mem_of_getElem? (i := 1) rfl)
  have i_X13 : ∀ w ∈ u_ws RX13 TX13 73, w ∈ wsX13_change := fun _ h => List.mem_cons_of_mem _ (List.mem_append_right _ h)
  have b1 : (0 : Int) ≤ (G 0 28).toInt ∧ (G 0 28).toInt ≤ 30000 := hI 0 28
  refine g_aload_n F 0 dX13_change_0 rfl rfl ?_
  refine yg_0_28 F i_X13 w_0 dX13_change_1 (G 0 28) (rfl) ?_
  refine g_istore_n F [(1, .int (G 0 28)), (0, .ref (a 0))] dX13_change_4 rfl (by decide) rfl ?_
  refine g_aload_n F 1 dX13_change_5 rfl rfl ?_
  refine g_iconst F 0 dX13_change_6 (by decide) ?_
  refine yp_0_28 F i_X13 w_0 dX13_change_7 ?_
  refine g_iload_n F 0 dX13_change_10 rfl rfl ?_
  exact u_iret F hA hQ hr (gu_up G 0 28 0) (⟨(gu_I.up (j := 0) (k := 28) (v := 0) hI (show (0 : Int) ≤ (0 : Int32).toInt by decide) (show (0 : Int32).toInt ≤ 30000 by decide)), (gu_un.up (j := 0) (k := 28) (v := 0) gu_un.rf (show (29 : Nat) ∈ ([29] : List Nat) by decide)), (by have h9 := ti_rng (G 0 28); omega), (⟨rfl, fun q => ⟨rfl, rfl, rfl, rfl, rfl⟩, rfl, rfl⟩)⟩) rfl rfl dX13_change_11

theorem dX13_isMachine_0 : decode cX13_isMachine 0 = .ok (.iload_n 0, 1) := by decide +kernel
theorem dX13_isMachine_1 : decode cX13_isMachine 1 = .ok (.i2l, 1) := by decide +kernel
theorem dX13_isMachine_2 : decode cX13_isMachine 2 = .ok (.lconst 0, 1) := by decide +kernel
theorem dX13_isMachine_3 : decode cX13_isMachine 3 = .ok (.ldc2_w 426, 3) := by decide +kernel
theorem dX13_isMachine_6 : decode cX13_isMachine 6 = .ok (.invokestatic 61, 3) := by decide +kernel
theorem dX13_isMachine_9 : decode cX13_isMachine 9 = .ok (.ifCond .eq 19, 3) := by decide +kernel
theorem dX13_isMachine_12 : decode cX13_isMachine 12 = .ok (.iload_n 1, 1) := by decide +kernel
theorem dX13_isMachine_13 : decode cX13_isMachine 13 = .ok (.i2l, 1) := by decide +kernel
theorem dX13_isMachine_14 : decode cX13_isMachine 14 = .ok (.lconst 0, 1) := by decide +kernel
theorem dX13_isMachine_15 : decode cX13_isMachine 15 = .ok (.ldc2_w 426, 3) := by decide +kernel
theorem dX13_isMachine_18 : decode cX13_isMachine 18 = .ok (.invokestatic 61, 3) := by decide +kernel
theorem dX13_isMachine_21 : decode cX13_isMachine 21 = .ok (.ifCond .eq 7, 3) := by decide +kernel
theorem dX13_isMachine_24 : decode cX13_isMachine 24 = .ok (.iconst 1, 1) := by decide +kernel
theorem dX13_isMachine_25 : decode cX13_isMachine 25 = .ok (.goto 4, 3) := by decide +kernel
theorem dX13_isMachine_28 : decode cX13_isMachine 28 = .ok (.iconst 0, 1) := by decide +kernel
theorem dX13_isMachine_29 : decode cX13_isMachine 29 = .ok (.ireturn, 1) := by decide +kernel
set_option maxRecDepth 20000 in
theorem ggX13_isMachine_X13_in : GoodIn wsX13_isMachine wsX13_in := goodIn_r _ [5] rfl (by decide +kernel)
set_option maxRecDepth 20000 in
theorem gX13_isMachine_X13_in : GoodIn wsX13_isMachine (va_wsS RX13 61 yX13_in wsX13_in) := goodIn_app (goodIn_of _ (by decide +kernel)) ggX13_isMachine_X13_in
set_option maxHeartbeats 4000000 in
set_option maxRecDepth 100000 in
theorem S_X13_isMachine (l : Launch) (D : va_G)  (p0 : Int32) (s0 : Int) (p1 : Int32) (s1 : Int) (e0 : p0.toInt = s0) (e1 : p1.toInt = s1) (sz : Nat) : Ki l yX13_isMachine wsX13_isMachine 2 65 0 0 D [.int p0, .int p1] [] [] sz (fun (r : Int32) (_ : Unit) => ((r = 1 ∧ (0 ≤ s0 ∧ s0 ≤ 300 ∧ 0 ≤ s1 ∧ s1 ≤ 300)) ∨ (r = 0 ∧ ¬ (0 ≤ s0 ∧ s0 ≤ 300 ∧ 0 ≤ s1 ∧ s1 ≤ 300)))) (fun (_ : Unit) => []) (fun _ => []) := by
  unfold Ki
  refine g_ofW (cc := cX13_isMachine) (lv := [(0, .int p0), (1, .int p1)]) (by decide) rfl (Nat.le_of_ble_eq_true rfl) rfl ?_
  intro p e s m args below meth c A Q hA hQ F hr hnm
  have hts := F.2.2.2.2.1
  have w_0 : (Cond.constantLong RX13 426 (300)).before args s = true := hts _ (List.mem_of_getElem? (i := 1) rfl)
  have rg0 : -2147483648 ≤ s0 ∧ s0 ≤ 2147483647 := e0 ▸ ti_rng p0
  have rg1 : -2147483648 ≤ s1 ∧ s1 ≤ 2147483647 := e1 ▸ ti_rng p1
  refine g_iload_n F 0 dX13_isMachine_0 rfl rfl ?_
  refine g_i2l F dX13_isMachine_1 ?_
  refine g_lconst F 0 dX13_isMachine_2 (by decide) ?_
  refine g_ldc2 F w_0 dX13_isMachine_3 ?_
  refine u_call0 (k := 0) (n := 0) (As := [.long (Int32.toInt64 p0), .long 0, .long 300]) (st := []) F (fun sz => S_X13_in l D (Int32.toInt64 p0) s0 0 0 300 300 (ti_i2l e0) rfl rfl sz) (va_cwS 3 hts gX13_isMachine_X13_in rfl rfl rfl (by decide +kernel) ⟨Nat.le_of_ble_eq_true rfl, Nat.le_of_ble_eq_true rfl⟩) rfl (Nat.le_of_ble_eq_true rfl) ⟨Nat.zero_le _, Nat.zero_le _⟩ dX13_isMachine_6 (fun r1 _ hw2 => ?_)
  rcases hw2 with ⟨rfl, q4⟩ | ⟨rfl, q5⟩
  · refine v_if_eq F 28 dX13_isMachine_9 (by decide) 1 rfl (fun c6 => absurd c6 (by decide)) (fun c6 => ?_)
    refine g_iload_n F 1 dX13_isMachine_12 rfl rfl ?_
    refine g_i2l F dX13_isMachine_13 ?_
    refine g_lconst F 0 dX13_isMachine_14 (by decide) ?_
    refine g_ldc2 F w_0 dX13_isMachine_15 ?_
    refine u_call0 (k := 0) (n := 0) (As := [.long (Int32.toInt64 p1), .long 0, .long 300]) (st := []) F (fun sz => S_X13_in l D (Int32.toInt64 p1) s1 0 0 300 300 (ti_i2l e1) rfl rfl sz) (va_cwS 3 hts gX13_isMachine_X13_in rfl rfl rfl (by decide +kernel) ⟨Nat.le_of_ble_eq_true rfl, Nat.le_of_ble_eq_true rfl⟩) rfl (Nat.le_of_ble_eq_true rfl) ⟨Nat.zero_le _, Nat.zero_le _⟩ dX13_isMachine_18 (fun r7 _ hw8 => ?_)
    rcases hw8 with ⟨rfl, q10⟩ | ⟨rfl, q11⟩
    · refine v_if_eq F 28 dX13_isMachine_21 (by decide) 1 rfl (fun c12 => absurd c12 (by decide)) (fun c12 => ?_)
      refine g_iconst F 1 dX13_isMachine_24 (by decide) ?_
      refine g_goto F 29 dX13_isMachine_25 (by decide) ?_
      exact u_zret F hA hQ hr rfl () ((Or.inl (⟨rfl, by first | trivial | omega⟩))) rfl rfl dX13_isMachine_29
    · refine v_if_eq F 28 dX13_isMachine_21 (by decide) 0 rfl (fun c13 => ?_) (fun c13 => absurd c13 (by decide))
      refine g_iconst F 0 dX13_isMachine_28 (by decide) ?_
      exact u_zret F hA hQ hr rfl () ((Or.inr (⟨rfl, by first | trivial | omega⟩))) rfl rfl dX13_isMachine_29
  · refine v_if_eq F 28 dX13_isMachine_9 (by decide) 0 rfl (fun c14 => ?_) (fun c14 => absurd c14 (by decide))
    refine g_iconst F 0 dX13_isMachine_28 (by decide) ?_
    exact u_zret F hA hQ hr rfl () ((Or.inr (⟨rfl, by first | trivial | omega⟩))) rfl rfl dX13_isMachine_29
