theorem dX5_mayHold_0 : decode cX5_mayHold 0 = .ok (.iload_n 0, 1) := by decide +kernel
theorem dX5_mayHold_1 : decode cX5_mayHold 1 = .ok (.ifCond .lt 25, 3) := by decide +kernel
theorem dX5_mayHold_4 : decode cX5_mayHold 4 = .ok (.iload_n 0, 1) := by decide +kernel
theorem dX5_mayHold_5 : decode cX5_mayHold 5 = .ok (.sipush 300, 3) := by decide +kernel
theorem dX5_mayHold_8 : decode cX5_mayHold 8 = .ok (.if_icmp .gt 18, 3) := by decide +kernel
theorem dX5_mayHold_11 : decode cX5_mayHold 11 = .ok (.iload_n 1, 1) := by decide +kernel
theorem dX5_mayHold_12 : decode cX5_mayHold 12 = .ok (.ifCond .lt 14, 3) := by decide +kernel
theorem dX5_mayHold_15 : decode cX5_mayHold 15 = .ok (.iload_n 1, 1) := by decide +kernel
theorem dX5_mayHold_16 : decode cX5_mayHold 16 = .ok (.sipush 300, 3) := by decide +kernel
theorem dX5_mayHold_19 : decode cX5_mayHold 19 = .ok (.if_icmp .gt 7, 3) := by decide +kernel
theorem dX5_mayHold_22 : decode cX5_mayHold 22 = .ok (.iconst 1, 1) := by decide +kernel
theorem dX5_mayHold_23 : decode cX5_mayHold 23 = .ok (.goto 4, 3) := by decide +kernel
theorem dX5_mayHold_26 : decode cX5_mayHold 26 = .ok (.iconst 0, 1) := by decide +kernel
theorem dX5_mayHold_27 : decode cX5_mayHold 27 = .ok (.ireturn, 1) := by decide +kernel
set_option maxHeartbeats 4000000 in
set_option maxRecDepth 100000 in
theorem S_X5_mayHold (l : Launch) (D : va_G)  (p0 : Int32) (s0 : Int) (p1 : Int32) (s1 : Int) (e0 : p0.toInt = s0) (e1 : p1.toInt = s1) (sz : Nat) : Ki l yX5_mayHold wsX5_mayHold 1 40 0 0 D [.int p0, .int p1] [] [] sz (fun (r : Int32) (_ : Unit) => (0 ≤ r.toInt ∧ r.toInt ≤ 1)) (fun (_ : Unit) => []) (fun _ => []) := by
  unfold Ki
  refine g_ofW (cc := cX5_mayHold) (lv := [(0, .int p0), (1, .int p1)]) (by decide) rfl (Nat.le_of_ble_eq_true rfl) rfl ?_
  intro p e s m args below meth c A Q hA hQ F hr hnm
  have hts := F.2.2.2.2.1
  have rg0 : -2147483648 ≤ s0 ∧ s0 ≤ 2147483647 := e0 ▸ ti_rng p0
  have rg1 : -2147483648 ≤ s1 ∧ s1 ≤ 2147483647 := e1 ▸ ti_rng p1
  refine g_iload_n F 0 dX5_mayHold_0 rfl rfl ?_
  refine v_if_lt F 26 dX5_mayHold_1 (by decide) s0 e0 (fun c1 => ?_) (fun c1 => ?_)
  · refine g_iconst F 0 dX5_mayHold_26 (by decide) ?_
    exact u_zret F hA hQ hr rfl () ((by decide)) rfl rfl dX5_mayHold_27
  · refine g_iload_n F 0 dX5_mayHold_4 rfl rfl ?_
    refine g_sipush F 300 dX5_mayHold_5 (by decide) ?_
    refine v_icmp_gt F 26 dX5_mayHold_8 (by decide) s0 300 e0 rfl (fun c2 => ?_) (fun c2 => ?_)
    · refine g_iconst F 0 dX5_mayHold_26 (by decide) ?_
      exact u_zret F hA hQ hr rfl () ((by decide)) rfl rfl dX5_mayHold_27
    · refine g_iload_n F 1 dX5_mayHold_11 rfl rfl ?_
      refine v_if_lt F 26 dX5_mayHold_12 (by decide) s1 e1 (fun c3 => ?_) (fun c3 => ?_)
      · refine g_iconst F 0 dX5_mayHold_26 (by decide) ?_
        exact u_zret F hA hQ hr rfl () ((by decide)) rfl rfl dX5_mayHold_27
      · refine g_iload_n F 1 dX5_mayHold_15 rfl rfl ?_
        refine g_sipush F 300 dX5_mayHold_16 (by decide) ?_
        refine v_icmp_gt F 26 dX5_mayHold_19 (by decide) s1 300 e1 rfl (fun c4 => ?_) (fun c4 => ?_)
        · refine g_iconst F 0 dX5_mayHold_26 (by decide) ?_
          exact u_zret F hA hQ hr rfl () ((by decide)) rfl rfl dX5_mayHold_27
        · refine g_iconst F 1 dX5_mayHold_22 (by decide) ?_
          refine g_goto F 27 dX5_mayHold_23 (by decide) ?_
          exact u_zret F hA hQ hr rfl () ((by decide)) rfl rfl dX5_mayHold_27

theorem dX5_takes_0 : decode cX5_takes 0 = .ok (.aload_n 0, 1) := by decide +kernel
theorem dX5_takes_1 : decode cX5_takes 1 = .ok (.iload_n 1, 1) := by decide +kernel
theorem dX5_takes_2 : decode cX5_takes 2 = .ok (.putfield 33, 3) := by decide +kernel
theorem dX5_takes_5 : decode cX5_takes 5 = .ok (.aload_n 0, 1) := by decide +kernel
theorem dX5_takes_6 : decode cX5_takes 6 = .ok (.iload_n 2, 1) := by decide +kernel
theorem dX5_takes_7 : decode cX5_takes 7 = .ok (.putfield 37, 3) := by decide +kernel
theorem dX5_takes_10 : decode cX5_takes 10 = .ok (.aload_n 0, 1) := by decide +kernel
theorem dX5_takes_11 : decode cX5_takes 11 = .ok (.iload_n 3, 1) := by decide +kernel
theorem dX5_takes_12 : decode cX5_takes 12 = .ok (.putfield 40, 3) := by decide +kernel
theorem dX5_takes_15 : decode cX5_takes 15 = .ok (.aload_n 0, 1) := by decide +kernel
theorem dX5_takes_16 : decode cX5_takes 16 = .ok (.iload 4, 2) := by decide +kernel
theorem dX5_takes_18 : decode cX5_takes 18 = .ok (.putfield 43, 3) := by decide +kernel
theorem dX5_takes_21 : decode cX5_takes 21 = .ok (.aload_n 0, 1) := by decide +kernel
theorem dX5_takes_22 : decode cX5_takes 22 = .ok (.getfield 29, 3) := by decide +kernel
theorem dX5_takes_25 : decode cX5_takes 25 = .ok (.iload_n 1, 1) := by decide +kernel
theorem dX5_takes_26 : decode cX5_takes 26 = .ok (.invokevirtual 46, 3) := by decide +kernel
theorem dX5_takes_29 : decode cX5_takes 29 = .ok (.ifCond .eq 42, 3) := by decide +kernel
theorem dX5_takes_32 : decode cX5_takes 32 = .ok (.iload_n 2, 1) := by decide +kernel
theorem dX5_takes_33 : decode cX5_takes 33 = .ok (.iconst 1, 1) := by decide +kernel
theorem dX5_takes_34 : decode cX5_takes 34 = .ok (.if_icmp .lt 37, 3) := by decide +kernel
theorem dX5_takes_37 : decode cX5_takes 37 = .ok (.iload_n 2, 1) := by decide +kernel
theorem dX5_takes_38 : decode cX5_takes 38 = .ok (.bipush 9, 2) := by decide +kernel
theorem dX5_takes_40 : decode cX5_takes 40 = .ok (.if_icmp .gt 31, 3) := by decide +kernel
theorem dX5_takes_43 : decode cX5_takes 43 = .ok (.iload_n 3, 1) := by decide +kernel
theorem dX5_takes_44 : decode cX5_takes 44 = .ok (.iconst 1, 1) := by decide +kernel
theorem dX5_takes_45 : decode cX5_takes 45 = .ok (.if_icmp .lt 26, 3) := by decide +kernel
theorem dX5_takes_48 : decode cX5_takes 48 = .ok (.iload_n 3, 1) := by decide +kernel
theorem dX5_takes_49 : decode cX5_takes 49 = .ok (.bipush 20, 2) := by decide +kernel
theorem dX5_takes_51 : decode cX5_takes 51 = .ok (.if_icmp .gt 20, 3) := by decide +kernel
theorem dX5_takes_54 : decode cX5_takes 54 = .ok (.iload 4, 2) := by decide +kernel
theorem dX5_takes_56 : decode cX5_takes 56 = .ok (.iconst 1, 1) := by decide +kernel
theorem dX5_takes_57 : decode cX5_takes 57 = .ok (.if_icmp .lt 14, 3) := by decide +kernel
theorem dX5_takes_60 : decode cX5_takes 60 = .ok (.iload 4, 2) := by decide +kernel
theorem dX5_takes_62 : decode cX5_takes 62 = .ok (.bipush 12, 2) := by decide +kernel
theorem dX5_takes_64 : decode cX5_takes 64 = .ok (.if_icmp .gt 7, 3) := by decide +kernel
theorem dX5_takes_67 : decode cX5_takes 67 = .ok (.iconst 1, 1) := by decide +kernel
theorem dX5_takes_68 : decode cX5_takes 68 = .ok (.goto 4, 3) := by decide +kernel
theorem dX5_takes_71 : decode cX5_takes 71 = .ok (.iconst 0, 1) := by decide +kernel
theorem dX5_takes_72 : decode cX5_takes 72 = .ok (.ireturn, 1) := by decide +kernel
set_option maxRecDepth 20000 in
theorem ggX5_takes_X7_hasRing : GoodIn wsX5_takes wsX7_hasRing := goodIn_r _ [10, 11, 32, 33, 34, 35] rfl (by decide +kernel)
set_option maxRecDepth 20000 in
theorem gX5_takes_X7_hasRing : GoodIn wsX5_takes (wsV RX5 46 RX7 yX7_hasRing wsX7_hasRing) := goodIn_app (goodIn_of _ (by decide +kernel)) ggX5_takes_X7_hasRing
set_option maxHeartbeats 4000000 in
set_option maxRecDepth 100000 in
theorem S_X5_takes (l : Launch) (D : va_G) (K : Nat → ClassId) (a : Nat → Nat) (G : gS) (p0 : Int32) (s0 : Int) (p1 : Int32) (s1 : Int) (p2 : Int32) (s2 : Int) (p3 : Int32) (s3 : Int) (e0 : p0.toInt = s0) (e1 : p1.toInt = s1) (e2 : p2.toInt = s2) (e3 : p3.toInt = s3) (hI : xI G) (sz : Nat) : Ki l yX5_takes wsX5_takes 2 61 0 0 D [.ref (a 6), .int p0, .int p1, .int p2, .int p3] (xW K a G) (tK K) sz (fun (r : Int32) (G' : gS) => (xI G') ∧ (gu_un xcd [602, 603, 604, 605] G G') ∧ ((r = 1 ∧ (0 ≤ s0 ∧ s0 < (G 18 1).toInt ∧ 1 ≤ s1 ∧ s1 ≤ 9 ∧ 1 ≤ s2 ∧ s2 ≤ 20 ∧ 1 ≤ s3 ∧ s3 ≤ 12)) ∨ (r = 0 ∧ ¬ (0 ≤ s0 ∧ s0 < (G 18 1).toInt ∧ 1 ≤ s1 ∧ s1 ≤ 9 ∧ 1 ≤ s2 ∧ s2 ≤ 20 ∧ 1 ≤ s3 ∧ s3 ≤ 12)))) (fun (G' : gS) => (xW K a G')) (fun _ => (tK K)) := by
  unfold Ki
  refine g_ofW (cc := cX5_takes) (lv := [(0, .ref (a 6)), (1, .int p0), (2, .int p1), (3, .int p2), (4, .int p3)]) (by decide) rfl (Nat.le_of_ble_eq_true rfl) rfl ?_
  intro p e s m args below meth c A Q hA hQ F hr hnm
  have hts := F.2.2.2.2.1
  have w_0 : (Cond.fieldLink RX5 33 "QuietCut$Lathe" "ring" "I").before args s = true := hts _ (List.mem_of_getElem? (i := 1) rfl)
  have i_X5 : ∀ w ∈ u_ws RX5 TX5 20, w ∈ wsX5_takes := fun _ h => List.mem_cons_of_mem _ (List.mem_append_left _ (List.mem_append_right _ h))
  have w_1 : (Cond.fieldLink RX5 37 "QuietCut$Lathe" "speed" "I").before args s = true := hts _ (List.mem_of_getElem? (i := 2) rfl)
  have w_2 : (Cond.fieldLink RX5 40 "QuietCut$Lathe" "feed" "I").before args s = true := hts _ (List.mem_of_getElem? (i := 3) rfl)
  have w_3 : (Cond.fieldLink RX5 43 "QuietCut$Lathe" "turns" "I").before args s = true := hts _ (List.mem_of_getElem? (i := 4) rfl)
  have w_4 : (Cond.fieldLink RX5 29 "QuietCut$Lathe" "shop" "LQuietCut$Shop;").before args s = true := hts _ (List.mem_of_getElem? (i := 5) rfl)
  have rg0 : -2147483648 ≤ s0 ∧ s0 ≤ 2147483647 := e0 ▸ ti_rng p0
  have rg1 : -2147483648 ≤ s1 ∧ s1 ≤ 2147483647 := e1 ▸ ti_rng p1
  have rg2 : -2147483648 ≤ s2 ∧ s2 ≤ 2147483647 := e2 ▸ ti_rng p2
  have rg3 : -2147483648 ≤ s3 ∧ s3 ≤ 2147483647 := e3 ▸ ti_rng p3
  have b1 : (1 : Int) ≤ (G 18 1).toInt ∧ (G 18 1).toInt ≤ 6 := hI 18 1
  refine g_aload_n F 0 dX5_takes_0 rfl rfl ?_
  refine g_iload_n F 1 dX5_takes_1 rfl rfl ?_
  refine xp_6_1 F i_X5 w_0 dX5_takes_2 ?_
  refine g_aload_n F 0 dX5_takes_5 rfl rfl ?_
  refine g_iload_n F 2 dX5_takes_6 rfl rfl ?_
  refine xp_6_2 F i_X5 w_1 dX5_takes_7 ?_
  refine g_aload_n F 0 dX5_takes_10 rfl rfl ?_
  refine g_iload_n F 3 dX5_takes_11 rfl rfl ?_
  refine xp_6_3 F i_X5 w_2 dX5_takes_12 ?_
  refine g_aload_n F 0 dX5_takes_15 rfl rfl ?_
  refine g_iload F 4 dX5_takes_16 rfl ?_
  refine xp_6_4 F i_X5 w_3 dX5_takes_18 ?_
  refine g_aload_n F 0 dX5_takes_21 rfl rfl ?_
  refine xg_6_0 F i_X5 w_4 dX5_takes_22 ?_
  refine g_iload_n F 1 dX5_takes_25 rfl rfl ?_
  refine u_callVi (k := 0) (n := 0) (b := a 2) (As := [.int p0]) (st := []) F (fun sz => S_X7_hasRing_2 l D K a (gu_up (gu_up (gu_up (gu_up G 6 1 p0) 6 2 p1) 6 3 p2) 6 4 p3) p0 s0 e0 (gu_I.up (j := 6) (k := 4) (v := p3) (gu_I.up (j := 6) (k := 3) (v := p2) (gu_I.up (j := 6) (k := 2) (v := p1) (gu_I.up (j := 6) (k := 1) (v := p0) hI (ti_rng _).1 (ti_rng _).2) (ti_rng _).1 (ti_rng _).2) (ti_rng _).1 (ti_rng _).2) (ti_rng _).1 (ti_rng _).2) sz) (cwV 1 hts gX5_takes_X7_hasRing rfl rfl rfl (by decide +kernel) ⟨Nat.le_of_ble_eq_true rfl, Nat.le_of_ble_eq_true rfl⟩) rfl 2 xc_2 rfl (Nat.le_of_ble_eq_true rfl) ⟨Nat.zero_le _, Nat.zero_le _⟩ dX5_takes_26 (fun r2 _ hw3 => ?_)
  rcases hw3 with ⟨rfl, q5⟩ | ⟨rfl, q6⟩
  · have q5 : (0 ≤ s0 ∧ s0 < (G 18 1).toInt) := q5
    refine v_if_eq F 71 dX5_takes_29 (by decide) 1 rfl (fun c7 => absurd c7 (by decide)) (fun c7 => ?_)
    refine g_iload_n F 2 dX5_takes_32 rfl rfl ?_
    refine g_iconst F 1 dX5_takes_33 (by decide) ?_
    refine v_icmp_lt F 71 dX5_takes_34 (by decide) s1 1 e1 rfl (fun c8 => ?_) (fun c8 => ?_)
    · refine g_iconst F 0 dX5_takes_71 (by decide) ?_
      exact u_zret F hA hQ hr rfl (gu_up (gu_up (gu_up (gu_up G 6 1 p0) 6 2 p1) 6 3 p2) 6 4 p3) (⟨(gu_I.up (j := 6) (k := 4) (v := p3) (gu_I.up (j := 6) (k := 3) (v := p2) (gu_I.up (j := 6) (k := 2) (v := p1) (gu_I.up (j := 6) (k := 1) (v := p0) hI (ti_rng _).1 (ti_rng _).2) (ti_rng _).1 (ti_rng _).2) (ti_rng _).1 (ti_rng _).2) (ti_rng _).1 (ti_rng _).2), (gu_un.up (j := 6) (k := 4) (v := p3) (gu_un.up (j := 6) (k := 3) (v := p2) (gu_un.up (j := 6) (k := 2) (v := p1) (gu_un.up (j := 6) (k := 1) (v := p0) gu_un.rf (show (602 : Nat) ∈ ([602, 603, 604, 605] : List Nat) by decide)) (show (603 : Nat) ∈ ([602, 603, 604, 605] : List Nat) by decide)) (show (604 : Nat) ∈ ([602, 603, 604, 605] : List Nat) by decide)) (show (605 : Nat) ∈ ([602, 603, 604, 605] : List Nat) by decide)), (Or.inr (⟨rfl, by first | trivial | omega⟩))⟩) rfl rfl dX5_takes_72
    · refine g_iload_n F 2 dX5_takes_37 rfl rfl ?_
      refine g_bipush F 9 dX5_takes_38 (by decide) ?_
      refine v_icmp_gt F 71 dX5_takes_40 (by decide) s1 9 e1 rfl (fun c9 => ?_) (fun c9 => ?_)
      · refine g_iconst F 0 dX5_takes_71 (by decide) ?_
        exact u_zret F hA hQ hr rfl (gu_up (gu_up (gu_up (gu_up G 6 1 p0) 6 2 p1) 6 3 p2) 6 4 p3) (⟨(gu_I.up (j := 6) (k := 4) (v := p3) (gu_I.up (j := 6) (k := 3) (v := p2) (gu_I.up (j := 6) (k := 2) (v := p1) (gu_I.up (j := 6) (k := 1) (v := p0) hI (ti_rng _).1 (ti_rng _).2) (ti_rng _).1 (ti_rng _).2) (ti_rng _).1 (ti_rng _).2) (ti_rng _).1 (ti_rng _).2), (gu_un.up (j := 6) (k := 4) (v := p3) (gu_un.up (j := 6) (k := 3) (v := p2) (gu_un.up (j := 6) (k := 2) (v := p1) (gu_un.up (j := 6) (k := 1) (v := p0) gu_un.rf (show (602 : Nat) ∈ ([602, 603, 604, 605] : List Nat) by decide)) (show (603 : Nat) ∈ ([602, 603, 604, 605] : List Nat) by decide)) (show (604 : Nat) ∈ ([602, 603, 604, 605] : List Nat) by decide)) (show (605 : Nat) ∈ ([602, 603, 604, 605] : List Nat) by decide)), (Or.inr (⟨rfl, by first | trivial | omega⟩))⟩) rfl rfl dX5_takes_72
      · refine g_iload_n F 3 dX5_takes_43 rfl rfl ?_
        refine g_iconst F 1 dX5_takes_44 (by decide) ?_
        refine v_icmp_lt F 71 dX5_takes_45 (by decide) s2 1 e2 rfl (fun c10 => ?_) (fun c10 => ?_)
        · refine g_iconst F 0 dX5_takes_71 (by decide) ?_
          exact u_zret F hA hQ hr rfl (gu_up (gu_up (gu_up (gu_up G 6 1 p0) 6 2 p1) 6 3 p2) 6 4 p3) (⟨(gu_I.up (j := 6) (k := 4) (v := p3) (gu_I.up (j := 6) (k := 3) (v := p2) (gu_I.up (j := 6) (k := 2) (v := p1) (gu_I.up (j := 6) (k := 1) (v := p0) hI (ti_rng _).1 (ti_rng _).2) (ti_rng _).1 (ti_rng _).2) (ti_rng _).1 (ti_rng _).2) (ti_rng _).1 (ti_rng _).2), (gu_un.up (j := 6) (k := 4) (v := p3) (gu_un.up (j := 6) (k := 3) (v := p2) (gu_un.up (j := 6) (k := 2) (v := p1) (gu_un.up (j := 6) (k := 1) (v := p0) gu_un.rf (show (602 : Nat) ∈ ([602, 603, 604, 605] : List Nat) by decide)) (show (603 : Nat) ∈ ([602, 603, 604, 605] : List Nat) by decide)) (show (604 : Nat) ∈ ([602, 603, 604, 605] : List Nat) by decide)) (show (605 : Nat) ∈ ([602, 603, 604, 605] : List Nat) by decide)), (Or.inr (⟨rfl, by first | trivial | omega⟩))⟩) rfl rfl dX5_takes_72
        · refine g_iload_n F 3 dX5_takes_48 rfl rfl ?_
          refine g_bipush F 20 dX5_takes_49 (by decide) ?_
          refine v_icmp_gt F 71 dX5_takes_51 (by decide) s2 20 e2 rfl (fun c11 => ?_) (fun c11 => ?_)
          · refine g_iconst F 0 dX5_takes_71 (by decide) ?_
            exact u_zret F hA hQ hr rfl (gu_up (gu_up (gu_up (gu_up G 6 1 p0) 6 2 p1) 6 3 p2) 6 4 p3) (⟨(gu_I.up (j := 6) (k := 4) (v := p3) (gu_I.up (j := 6) (k := 3) (v := p2) (gu_I.up (j := 6) (k := 2) (v := p1) (gu_I.up (j := 6) (k := 1) (v := p0) hI (ti_rng _).1 (ti_rng _).2) (ti_rng _).1 (ti_rng _).2) (ti_rng _).1 (ti_rng _).2) (ti_rng _).1 (ti_rng _).2), (gu_un.up (j := 6) (k := 4) (v := p3) (gu_un.up (j := 6) (k := 3) (v := p2) (gu_un.up (j := 6) (k := 2) (v := p1) (gu_un.up (j := 6) (k := 1) (v := p0) gu_un.rf (show (602 : Nat) ∈ ([602, 603, 604, 605] : List Nat) by decide)) (show (603 : Nat) ∈ ([602, 603, 604, 605] : List Nat) by decide)) (show (604 : Nat) ∈ ([602, 603, 604, 605] : List Nat) by decide)) (show (605 : Nat) ∈ ([602, 603, 604, 605] : List Nat) by decide)), (Or.inr (⟨rfl, by first | trivial | omega⟩))⟩) rfl rfl dX5_takes_72
          · refine g_iload F 4 dX5_takes_54 rfl ?_
            refine g_iconst F 1 dX5_takes_56 (by decide) ?_
            refine v_icmp_lt F 71 dX5_takes_57 (by decide) s3 1 e3 rfl (fun c12 => ?_) (fun c12 => ?_)
            · refine g_iconst F 0 dX5_takes_71 (by decide) ?_
              exact u_zret F hA hQ hr rfl (gu_up (gu_up (gu_up (gu_up G 6 1 p0) 6 2 p1) 6 3 p2) 6 4 p3) (⟨(gu_I.up (j := 6) (k := 4) (v := p3) (gu_I.up (j := 6) (k := 3) (v := p2) (gu_I.up (j := 6) (k := 2) (v := p1) (gu_I.up (j := 6) (k := 1) (v := p0) hI (ti_rng _).1 (ti_rng _).2) (ti_rng _).1 (ti_rng _).2) (ti_rng _).1 (ti_rng _).2) (ti_rng _).1 (ti_rng _).2), (gu_un.up (j := 6) (k := 4) (v := p3) (gu_un.up (j := 6) (k := 3) (v := p2) (gu_un.up (j := 6) (k := 2) (v := p1) (gu_un.up (j := 6) (k := 1) (v := p0) gu_un.rf (show (602 : Nat) ∈ ([602, 603, 604, 605] : List Nat) by decide)) (show (603 : Nat) ∈ ([602, 603, 604, 605] : List Nat) by decide)) (show (604 : Nat) ∈ ([602, 603, 604, 605] : List Nat) by decide)) (show (605 : Nat) ∈ ([602, 603, 604, 605] : List Nat) by decide)), (Or.inr (⟨rfl, by first | trivial | omega⟩))⟩) rfl rfl dX5_takes_72
            · refine g_iload F 4 dX5_takes_60 rfl ?_
              refine g_bipush F 12 dX5_takes_62 (by decide) ?_
              refine v_icmp_gt F 71 dX5_takes_64 (by decide) s3 12 e3 rfl (fun c13 => ?_) (fun c13 => ?_)
              · refine g_iconst F 0 dX5_takes_71 (by decide) ?_
                exact u_zret F hA hQ hr rfl (gu_up (gu_up (gu_up (gu_up G 6 1 p0) 6 2 p1) 6 3 p2) 6 4 p3) (⟨(gu_I.up (j := 6) (k := 4) (v := p3) (gu_I.up (j := 6) (k := 3) (v := p2) (gu_I.up (j := 6) (k := 2) (v := p1) (gu_I.up (j := 6) (k := 1) (v := p0) hI (ti_rng _).1 (ti_rng _).2) (ti_rng _).1 (ti_rng _).2) (ti_rng _).1 (ti_rng _).2) (ti_rng _).1 (ti_rng _).2), (gu_un.up (j := 6) (k := 4) (v := p3) (gu_un.up (j := 6) (k := 3) (v := p2) (gu_un.up (j := 6) (k := 2) (v := p1) (gu_un.up (j := 6) (k := 1) (v := p0) gu_un.rf (show (602 : Nat) ∈ ([602, 603, 604, 605] : List Nat) by decide)) (show (603 : Nat) ∈ ([602, 603, 604, 605] : List Nat) by decide)) (show (604 : Nat) ∈ ([602, 603, 604, 605] : List Nat) by decide)) (show (605 : Nat) ∈ ([602, 603, 604, 605] : List Nat) by decide)), (Or.inr (⟨rfl, by first | trivial | omega⟩))⟩) rfl rfl dX5_takes_72
              · refine g_iconst F 1 dX5_takes_67 (by decide) ?_
                refine g_goto F 72 dX5_takes_68 (by decide) ?_
                exact u_zret F hA hQ hr rfl (gu_up (gu_up (gu_up (gu_up G 6 1 p0) 6 2 p1) 6 3 p2) 6 4 p3) (⟨(gu_I.up (j := 6) (k := 4) (v := p3) (gu_I.up (j := 6) (k := 3) (v := p2) (gu_I.up (j := 6) (k := 2) (v := p1) (gu_I.up (j := 6) (k := 1) (v := p0) hI (ti_rng _).1 (ti_rng _).2) (ti_rng _).1 (ti_rng _).2) (ti_rng _).1 (ti_rng _).2) (ti_rng _).1 (ti_rng _).2), (gu_un.up (j := 6) (k := 4) (v := p3) (gu_un.up (j := 6) (k := 3) (v := p2) (gu_un.up (j := 6) (k := 2) (v := p1) (gu_un.up (j := 6) (k := 1) (v := p0) gu_un.rf (show (602 : Nat) ∈ ([602, 603, 604, 605] : List Nat) by decide)) (show (603 : Nat) ∈ ([602, 603, 604, 605] : List Nat) by decide)) (show (604 : Nat) ∈ ([602, 603, 604, 605] : List Nat) by decide)) (show (605 : Nat) ∈ ([602, 603, 604, 605] : List Nat) by decide)), (Or.inl (⟨rfl, by first | trivial | omega⟩))⟩) rfl rfl dX5_takes_72
  · have q6 : (s0 < 0 ∨ (G 18 1).toInt ≤ s0) := q6
    refine v_if_eq F 71 dX5_takes_29 (by decide) 0 rfl (fun c14 => ?_) (fun c14 => absurd c14 (by decide))
    refine g_iconst F 0 dX5_takes_71 (by decide) ?_
    exact u_zret F hA hQ hr rfl (gu_up (gu_up (gu_up (gu_up G 6 1 p0) 6 2 p1) 6 3 p2) 6 4 p3) (⟨(gu_I.up (j := 6) (k := 4) (v := p3) (gu_I.up (j := 6) (k := 3) (v := p2) (gu_I.up (j := 6) (k := 2) (v := p1) (gu_I.up (j := 6) (k := 1) (v := p0) hI (ti_rng _).1 (ti_rng _).2) (ti_rng _).1 (ti_rng _).2) (ti_rng _).1 (ti_rng _).2) (ti_rng _).1 (ti_rng _).2), (gu_un.up (j := 6) (k := 4) (v := p3) (gu_un.up (j := 6) (k := 3) (v := p2) (gu_un.up (j := 6) (k := 2) (v := p1) (gu_un.up (j := 6) (k := 1) (v := p0) gu_un.rf (show (602 : Nat) ∈ ([602, 603, 604, 605] : List Nat) by decide)) (show (603 : Nat) ∈ ([602, 603, 604, 605] : List Nat) by decide)) (show (604 : Nat) ∈ ([602, 603, 604, 605] : List Nat) by decide)) (show (605 : Nat) ∈ ([602, 603, 604, 605] : List Nat) by decide)), (Or.inr (⟨rfl, by first | trivial | omega⟩))⟩) rfl rfl dX5_takes_72

theorem dX5_useTeeth_0 : decode cX5_useTeeth 0 = .ok (.aload_n 0, 1) := by decide +kernel
theorem dX5_useTeeth_1 : decode cX5_useTeeth 1 = .ok (.iload_n 1, 1) := by decide +kernel
theorem dX5_useTeeth_2 : decode cX5_useTeeth 2 = .ok (.putfield 50, 3) := by decide +kernel
theorem dX5_useTeeth_5 : decode cX5_useTeeth 5 = .ok (.return_, 1) := by decide +kernel
set_option maxHeartbeats 4000000 in
set_option maxRecDepth 100000 in
theorem S_X5_useTeeth (l : Launch) (D : va_G) (K : Nat → ClassId) (a : Nat → Nat) (G : gS) (p0 : Int32) (s0 : Int) (e0 : p0.toInt = s0) (hI : xI G) (sz : Nat) : Kv l yX5_useTeeth wsX5_useTeeth 1 40 0 0 D [.ref (a 6), .int p0] (xW K a G) (tK K) sz (fun (G' : gS) => (xI G') ∧ (gu_un xcd [607] G G')) (fun (G' : gS) => (xW K a G')) (fun _ => (tK K)) := by
  unfold Kv
  refine g_ofW (cc := cX5_useTeeth) (lv := [(0, .ref (a 6)), (1, .int p0)]) (by decide) rfl (Nat.le_of_ble_eq_true rfl) rfl ?_
  intro p e s m args below meth c A Q hA hQ F hr hnm
  have hts := F.2.2.2.2.1
  have w_0 : (Cond.fieldLink RX5 50 "QuietCut$Lathe" "teethSet" "I").before args s = true := hts _ (List.mem_of_getElem? (i := 1) rfl)
  have i_X5 : ∀ w ∈ u_ws RX5 TX5 20, w ∈ wsX5_useTeeth := fun _ h => List.mem_cons_of_mem _ (List.mem_append_right _ h)
  have rg0 : -2147483648 ≤ s0 ∧ s0 ≤ 2147483647 := e0 ▸ ti_rng p0
  refine g_aload_n F 0 dX5_useTeeth_0 rfl rfl ?_
  refine g_iload_n F 1 dX5_useTeeth_1 rfl rfl ?_
  refine xp_6_6 F i_X5 w_0 dX5_useTeeth_2 ?_
  exact u_vret F hA hQ hr (gu_up G 6 6 p0) (⟨(gu_I.up (j := 6) (k := 6) (v := p0) hI (ti_rng _).1 (ti_rng _).2), (gu_un.up (j := 6) (k := 6) (v := p0) gu_un.rf (show (607 : Nat) ∈ ([607] : List Nat) by decide))⟩) rfl rfl dX5_useTeeth_5

theorem dX5_mountTeeth_0 : decode cX5_mountTeeth 0 = .ok (.aload_n 0, 1) := by decide +kernel
theorem dX5_mountTeeth_1 : decode cX5_mountTeeth 1 = .ok (.iconst 0, 1) := by decide +kernel
theorem dX5_mountTeeth_2 : decode cX5_mountTeeth 2 = .ok (.putfield 53, 3) := by decide +kernel
theorem dX5_mountTeeth_5 : decode cX5_mountTeeth 5 = .ok (.aload_n 0, 1) := by decide +kernel
theorem dX5_mountTeeth_6 : decode cX5_mountTeeth 6 = .ok (.getfield 50, 3) := by decide +kernel
theorem dX5_mountTeeth_9 : decode cX5_mountTeeth 9 = .ok (.ifCond .ne 59, 3) := by decide +kernel
theorem dX5_mountTeeth_12 : decode cX5_mountTeeth 12 = .ok (.iconst 0, 1) := by decide +kernel
theorem dX5_mountTeeth_13 : decode cX5_mountTeeth 13 = .ok (.istore_n 1, 1) := by decide +kernel
theorem dX5_mountTeeth_14 : decode cX5_mountTeeth 14 = .ok (.iload_n 1, 1) := by decide +kernel
theorem dX5_mountTeeth_15 : decode cX5_mountTeeth 15 = .ok (.aload_n 0, 1) := by decide +kernel
theorem dX5_mountTeeth_16 : decode cX5_mountTeeth 16 = .ok (.getfield 29, 3) := by decide +kernel
theorem dX5_mountTeeth_19 : decode cX5_mountTeeth 19 = .ok (.getfield 56, 3) := by decide +kernel
theorem dX5_mountTeeth_22 : decode cX5_mountTeeth 22 = .ok (.bipush 10, 2) := by decide +kernel
theorem dX5_mountTeeth_24 : decode cX5_mountTeeth 24 = .ok (.iaload, 1) := by decide +kernel
theorem dX5_mountTeeth_25 : decode cX5_mountTeeth 25 = .ok (.if_icmp .ge 42, 3) := by decide +kernel
theorem dX5_mountTeeth_28 : decode cX5_mountTeeth 28 = .ok (.iload_n 1, 1) := by decide +kernel
theorem dX5_mountTeeth_29 : decode cX5_mountTeeth 29 = .ok (.iconst 4, 1) := by decide +kernel
theorem dX5_mountTeeth_30 : decode cX5_mountTeeth 30 = .ok (.if_icmp .ge 37, 3) := by decide +kernel
theorem dX5_mountTeeth_33 : decode cX5_mountTeeth 33 = .ok (.aload_n 0, 1) := by decide +kernel
theorem dX5_mountTeeth_34 : decode cX5_mountTeeth 34 = .ok (.getfield 11, 3) := by decide +kernel
theorem dX5_mountTeeth_37 : decode cX5_mountTeeth 37 = .ok (.iload_n 1, 1) := by decide +kernel
theorem dX5_mountTeeth_38 : decode cX5_mountTeeth 38 = .ok (.aload_n 0, 1) := by decide +kernel
theorem dX5_mountTeeth_39 : decode cX5_mountTeeth 39 = .ok (.getfield 29, 3) := by decide +kernel
theorem dX5_mountTeeth_42 : decode cX5_mountTeeth 42 = .ok (.getfield 56, 3) := by decide +kernel
theorem dX5_mountTeeth_45 : decode cX5_mountTeeth 45 = .ok (.bipush 20, 2) := by decide +kernel
theorem dX5_mountTeeth_47 : decode cX5_mountTeeth 47 = .ok (.iload_n 1, 1) := by decide +kernel
theorem dX5_mountTeeth_48 : decode cX5_mountTeeth 48 = .ok (.iadd, 1) := by decide +kernel
theorem dX5_mountTeeth_49 : decode cX5_mountTeeth 49 = .ok (.iaload, 1) := by decide +kernel
theorem dX5_mountTeeth_50 : decode cX5_mountTeeth 50 = .ok (.iastore, 1) := by decide +kernel
theorem dX5_mountTeeth_51 : decode cX5_mountTeeth 51 = .ok (.aload_n 0, 1) := by decide +kernel
theorem dX5_mountTeeth_52 : decode cX5_mountTeeth 52 = .ok (.dup, 1) := by decide +kernel
theorem dX5_mountTeeth_53 : decode cX5_mountTeeth 53 = .ok (.getfield 53, 3) := by decide +kernel
theorem dX5_mountTeeth_56 : decode cX5_mountTeeth 56 = .ok (.iconst 1, 1) := by decide +kernel
theorem dX5_mountTeeth_57 : decode cX5_mountTeeth 57 = .ok (.iadd, 1) := by decide +kernel
theorem dX5_mountTeeth_58 : decode cX5_mountTeeth 58 = .ok (.putfield 53, 3) := by decide +kernel
theorem dX5_mountTeeth_61 : decode cX5_mountTeeth 61 = .ok (.iinc 1 1, 3) := by decide +kernel
theorem dX5_mountTeeth_64 : decode cX5_mountTeeth 64 = .ok (.goto (-50), 3) := by decide +kernel
theorem dX5_mountTeeth_67 : decode cX5_mountTeeth 67 = .ok (.return_, 1) := by decide +kernel
theorem dX5_mountTeeth_68 : decode cX5_mountTeeth 68 = .ok (.iconst 0, 1) := by decide +kernel
theorem dX5_mountTeeth_69 : decode cX5_mountTeeth 69 = .ok (.istore_n 1, 1) := by decide +kernel
theorem dX5_mountTeeth_70 : decode cX5_mountTeeth 70 = .ok (.iload_n 1, 1) := by decide +kernel
theorem dX5_mountTeeth_71 : decode cX5_mountTeeth 71 = .ok (.bipush 16, 2) := by decide +kernel
theorem dX5_mountTeeth_73 : decode cX5_mountTeeth 73 = .ok (.if_icmp .ge 48, 3) := by decide +kernel
theorem dX5_mountTeeth_76 : decode cX5_mountTeeth 76 = .ok (.aload_n 0, 1) := by decide +kernel
theorem dX5_mountTeeth_77 : decode cX5_mountTeeth 77 = .ok (.getfield 53, 3) := by decide +kernel
theorem dX5_mountTeeth_80 : decode cX5_mountTeeth 80 = .ok (.iconst 4, 1) := by decide +kernel
theorem dX5_mountTeeth_81 : decode cX5_mountTeeth 81 = .ok (.if_icmp .ge 40, 3) := by decide +kernel
theorem dX5_mountTeeth_84 : decode cX5_mountTeeth 84 = .ok (.aload_n 0, 1) := by decide +kernel
theorem dX5_mountTeeth_85 : decode cX5_mountTeeth 85 = .ok (.getfield 50, 3) := by decide +kernel
theorem dX5_mountTeeth_88 : decode cX5_mountTeeth 88 = .ok (.iload_n 1, 1) := by decide +kernel
theorem dX5_mountTeeth_89 : decode cX5_mountTeeth 89 = .ok (.ishr, 1) := by decide +kernel
theorem dX5_mountTeeth_90 : decode cX5_mountTeeth 90 = .ok (.iconst 1, 1) := by decide +kernel
theorem dX5_mountTeeth_91 : decode cX5_mountTeeth 91 = .ok (.iand, 1) := by decide +kernel
theorem dX5_mountTeeth_92 : decode cX5_mountTeeth 92 = .ok (.ifCond .eq 23, 3) := by decide +kernel
theorem dX5_mountTeeth_95 : decode cX5_mountTeeth 95 = .ok (.aload_n 0, 1) := by decide +kernel
theorem dX5_mountTeeth_96 : decode cX5_mountTeeth 96 = .ok (.getfield 11, 3) := by decide +kernel
theorem dX5_mountTeeth_99 : decode cX5_mountTeeth 99 = .ok (.aload_n 0, 1) := by decide +kernel
theorem dX5_mountTeeth_100 : decode cX5_mountTeeth 100 = .ok (.getfield 53, 3) := by decide +kernel
theorem dX5_mountTeeth_103 : decode cX5_mountTeeth 103 = .ok (.iload_n 1, 1) := by decide +kernel
theorem dX5_mountTeeth_104 : decode cX5_mountTeeth 104 = .ok (.iastore, 1) := by decide +kernel
theorem dX5_mountTeeth_105 : decode cX5_mountTeeth 105 = .ok (.aload_n 0, 1) := by decide +kernel
theorem dX5_mountTeeth_106 : decode cX5_mountTeeth 106 = .ok (.dup, 1) := by decide +kernel
theorem dX5_mountTeeth_107 : decode cX5_mountTeeth 107 = .ok (.getfield 53, 3) := by decide +kernel
theorem dX5_mountTeeth_110 : decode cX5_mountTeeth 110 = .ok (.iconst 1, 1) := by decide +kernel
theorem dX5_mountTeeth_111 : decode cX5_mountTeeth 111 = .ok (.iadd, 1) := by decide +kernel
theorem dX5_mountTeeth_112 : decode cX5_mountTeeth 112 = .ok (.putfield 53, 3) := by decide +kernel
theorem dX5_mountTeeth_115 : decode cX5_mountTeeth 115 = .ok (.iinc 1 1, 3) := by decide +kernel
theorem dX5_mountTeeth_118 : decode cX5_mountTeeth 118 = .ok (.goto (-48), 3) := by decide +kernel
theorem dX5_mountTeeth_121 : decode cX5_mountTeeth 121 = .ok (.return_, 1) := by decide +kernel
set_option maxHeartbeats 4000000 in
set_option maxRecDepth 100000 in
theorem S_X5_mountTeeth (l : Launch) (D : va_G) (K : Nat → ClassId) (a : Nat → Nat) (G : gS) (hI : xI G) (sz : Nat) : Kv l yX5_mountTeeth wsX5_mountTeeth 1 40 0 0 D [.ref (a 6)] (xW K a G) (tK K) sz (fun (G' : gS) => (xI G') ∧ (gu_un xcd [608, 4400] G G')) (fun (G' : gS) => (xW K a G')) (fun _ => (tK K)) := by
  unfold Kv
  refine g_ofW (cc := cX5_mountTeeth) (lv := [(0, .ref (a 6))]) (by decide) rfl (Nat.le_of_ble_eq_true rfl) rfl ?_
  intro p e s m args below meth c A Q hA hQ F hr hnm
  have hts := F.2.2.2.2.1
  have w_0 : (Cond.fieldLink RX5 53 "QuietCut$Lathe" "teethMany" "I").before args s = true := hts _ (List.mem_of_getElem? (i := 1) rfl)
  have i_X5 : ∀ w ∈ u_ws RX5 TX5 20, w ∈ wsX5_mountTeeth := fun _ h => List.mem_cons_of_mem _ (List.mem_append_left _ (List.mem_append_right _ h))
  have w_1 : (Cond.fieldLink RX5 50 "QuietCut$Lathe" "teethSet" "I").before args s = true := hts _ (List.mem_of_getElem? (i := 2) rfl)
  have w_2 : (Cond.fieldLink RX5 11 "QuietCut$Lathe" "teeth" "[I").before args s = true := hts _ (List.mem_of_getElem? (i := 5) rfl)
  have w_3 : (Cond.fieldLink RX5 29 "QuietCut$Lathe" "shop" "LQuietCut$Shop;").before args s = true := hts _ (List.mem_of_getElem? (i := 3) rfl)
  have w_4 : (Cond.fieldLink RX5 56 "QuietCut$Shop" "numbers" "[I").before args s = true := hts _ (List.mem_of_getElem? (i := 4) rfl)
  have i_X7 : ∀ w ∈ u_ws RX7 TX7 4, w ∈ wsX5_mountTeeth := fun _ h => List.mem_cons_of_mem _ (List.mem_append_right _ h)
  have J_70 : ∀ (fuel : Nat) (x70_1 : Int32) (Gj70 : gS), (2147483647 - x70_1.toInt).toNat < fuel → (0 ≤ x70_1.toInt ∧ x70_1.toInt ≤ 16) → (xI Gj70) → (gu_un xcd [608, 4400] G Gj70) → gG p l e (gR 1 0 0 40) s m args below meth c D A 2 Q 0 0 (xW K a Gj70) (tK K) [(0, .ref (a 6)), (1, .int x70_1)] 70 [] := by
    intro fuel
    induction fuel with
    | zero => intro x70_1 Gj70 hm; exact absurd hm (Nat.not_lt_zero _)
    | succ fuel_70 ih_70 =>
      intro x70_1 Gj70 hm_70 h70_1 jI70 jU70
      have J_115 : ∀  (Gj115 : gS), (0 ≤ x70_1.toInt ∧ x70_1.toInt ≤ 15) → (xI Gj115) → (gu_un xcd [608, 4400] Gj70 Gj115) → gG p l e (gR 1 0 0 40) s m args below meth c D A 2 Q 0 0 (xW K a Gj115) (tK K) [(0, .ref (a 6)), (1, .int x70_1)] 115 [] := by
        intro Gj115 k115_1 jI115 jU115
        refine u_iinc F (fun v_ => [(1, .int v_), (0, .ref (a 6))]) dX5_mountTeeth_115 (j := 1) rfl x70_1.toInt 1 rfl rfl (by omega) (by omega) (by decide) (fun _ => rfl) (fun y1 ey1 => ?_)
        refine g_goto F 70 dX5_mountTeeth_118 (by decide) ?_
        refine g_locals [(0, .ref (a 6)), (1, .int y1)] [1, 0] rfl ?_
        exact ih_70 y1 Gj115 (by omega) (by have h9 := ti_rng y1; omega) jI115 (gu_un.tr (gu_un.tr gu_un.rf (gu_un.su jU70 rfl)) (gu_un.su jU115 rfl))
      refine g_iload_n F 1 dX5_mountTeeth_70 rfl rfl ?_
      refine g_bipush F 16 dX5_mountTeeth_71 (by decide) ?_
      refine v_icmp_ge F 121 dX5_mountTeeth_73 (by decide) x70_1.toInt 16 rfl rfl (fun c2 => ?_) (fun c2 => ?_)
      · exact u_vret F hA hQ hr Gj70 (⟨jI70, (gu_un.tr gu_un.rf (gu_un.su jU70 rfl))⟩) rfl rfl dX5_mountTeeth_121
      · refine g_aload_n F 0 dX5_mountTeeth_76 rfl rfl ?_
        refine xg_6_7 F i_X5 w_0 dX5_mountTeeth_77 (Gj70 6 7) (rfl) ?_
        refine g_iconst F 4 dX5_mountTeeth_80 (by decide) ?_
        have b3 : (0 : Int) ≤ (Gj70 6 7).toInt ∧ (Gj70 6 7).toInt ≤ 4 := jI70 6 7
        refine v_icmp_ge F 121 dX5_mountTeeth_81 (by decide) (Gj70 6 7).toInt 4 rfl rfl (fun c4 => ?_) (fun c4 => ?_)
        · exact u_vret F hA hQ hr Gj70 (⟨jI70, (gu_un.tr gu_un.rf (gu_un.su jU70 rfl))⟩) rfl rfl dX5_mountTeeth_121
        · refine g_aload_n F 0 dX5_mountTeeth_84 rfl rfl ?_
          refine xg_6_6 F i_X5 w_1 dX5_mountTeeth_85 (G 6 6) (jU70 6 6 (by decide)) ?_
          refine g_iload_n F 1 dX5_mountTeeth_88 rfl rfl ?_
          refine u0_ishr F dX5_mountTeeth_89 (fun y5 => ?_)
          refine g_iconst F 1 dX5_mountTeeth_90 (by decide) ?_
          refine u_iand F dX5_mountTeeth_91 _ 1 rfl rfl (by omega) (fun y6 ey6 => ?_)
          refine v_if_eq F 115 dX5_mountTeeth_92 (by decide) y6.toInt rfl (fun c7 => ?_) (fun c7 => ?_)
          · exact J_115 Gj70 (by have h9 := ti_rng x70_1; omega) jI70 gu_un.rf
          · refine g_aload_n F 0 dX5_mountTeeth_95 rfl rfl ?_
            refine xg_6_5 F i_X5 w_2 dX5_mountTeeth_96 ?_
            refine g_aload_n F 0 dX5_mountTeeth_99 rfl rfl ?_
            refine xg_6_7 F i_X5 w_0 dX5_mountTeeth_100 (Gj70 6 7) (rfl) ?_
            refine g_iload_n F 1 dX5_mountTeeth_103 rfl rfl ?_
            refine u_iast F 44 0 xc_44 rfl (Gj70 6 7).toInt rfl (by omega) (by omega) (xW K a (gu_up Gj70 44 ((Gj70 6 7).toInt).toNat x70_1)) (xs_44 _) dX5_mountTeeth_104 ?_
            refine g_aload_n F 0 dX5_mountTeeth_105 rfl rfl ?_
            refine g_dup F dX5_mountTeeth_106 rfl ?_
            refine xg_6_7 F i_X5 w_0 dX5_mountTeeth_107 (Gj70 6 7) (rfl) ?_
            refine g_iconst F 1 dX5_mountTeeth_110 (by decide) ?_
            refine u_iadd F dX5_mountTeeth_111 (Gj70 6 7).toInt 1 rfl rfl (by omega) (by omega) (fun y8 ey8 => ?_)
            refine xp_6_7 F i_X5 w_0 dX5_mountTeeth_112 ?_
            exact J_115 (gu_up (gu_up Gj70 44 ((Gj70 6 7).toInt).toNat x70_1) 6 7 y8) (by have h9 := ti_rng x70_1; omega) (gu_I.up (j := 6) (k := 7) (v := y8) (gu_I.up (j := 44) (k := ((Gj70 6 7).toInt).toNat) (v := x70_1) jI70 (show (0 : Int) ≤ Int32.toInt x70_1 by omega) (show Int32.toInt x70_1 ≤ 15 by omega)) (show (0 : Int) ≤ Int32.toInt y8 by omega) (show Int32.toInt y8 ≤ 4 by omega)) (gu_un.up (j := 6) (k := 7) (v := y8) (gu_un.up (j := 44) (k := ((Gj70 6 7).toInt).toNat) (v := x70_1) gu_un.rf (show (4400 : Nat) ∈ ([608, 4400] : List Nat) by decide)) (show (608 : Nat) ∈ ([608, 4400] : List Nat) by decide))
  have J_14 : ∀ (fuel : Nat) (x14_1 : Int32) (Gj14 : gS), (2147483647 - x14_1.toInt).toNat < fuel → (0 ≤ x14_1.toInt ∧ x14_1.toInt ≤ 4) → (xI Gj14) → (gu_un xcd [608, 4400] G Gj14) → ((Gj14 6 7).toInt = x14_1.toInt) → gG p l e (gR 1 0 0 40) s m args below meth c D A 2 Q 0 0 (xW K a Gj14) (tK K) [(0, .ref (a 6)), (1, .int x14_1)] 14 [] := by
    intro fuel
    induction fuel with
    | zero => intro x14_1 Gj14 hm; exact absurd hm (Nat.not_lt_zero _)
    | succ fuel_14 ih_14 =>
      intro x14_1 Gj14 hm_14 h14_1 jI14 jU14 hv
      refine g_iload_n F 1 dX5_mountTeeth_14 rfl rfl ?_
      refine g_aload_n F 0 dX5_mountTeeth_15 rfl rfl ?_
      refine xg_6_0 F i_X5 w_3 dX5_mountTeeth_16 ?_
      refine xg_2_0 F i_X7 w_4 dX5_mountTeeth_19 ?_
      refine g_bipush F 10 dX5_mountTeeth_22 (by decide) ?_
      refine u1_iald F 18 0 xc_18 rfl 10 rfl (by decide) (by decide) dX5_mountTeeth_24 (G 18 10) (jU14 18 10 (by decide)) ?_
      have b9 : (1 : Int) ≤ (G 18 10).toInt ∧ (G 18 10).toInt ≤ 4 := hI 18 10
      refine v_icmp_ge F 67 dX5_mountTeeth_25 (by decide) x14_1.toInt (G 18 10).toInt rfl rfl (fun c10 => ?_) (fun c10 => ?_)
      · exact u_vret F hA hQ hr Gj14 (⟨jI14, (gu_un.tr gu_un.rf (gu_un.su jU14 rfl))⟩) rfl rfl dX5_mountTeeth_67
      · refine g_iload_n F 1 dX5_mountTeeth_28 rfl rfl ?_
        refine g_iconst F 4 dX5_mountTeeth_29 (by decide) ?_
        refine v_icmp_ge F 67 dX5_mountTeeth_30 (by decide) x14_1.toInt 4 rfl rfl (fun c11 => absurd c11 (by omega)) (fun c11 => ?_)
        refine g_aload_n F 0 dX5_mountTeeth_33 rfl rfl ?_
        refine xg_6_5 F i_X5 w_2 dX5_mountTeeth_34 ?_
        refine g_iload_n F 1 dX5_mountTeeth_37 rfl rfl ?_
        refine g_aload_n F 0 dX5_mountTeeth_38 rfl rfl ?_
        refine xg_6_0 F i_X5 w_3 dX5_mountTeeth_39 ?_
        refine xg_2_0 F i_X7 w_4 dX5_mountTeeth_42 ?_
        refine g_bipush F 20 dX5_mountTeeth_45 (by decide) ?_
        refine g_iload_n F 1 dX5_mountTeeth_47 rfl rfl ?_
        refine u_iadd F dX5_mountTeeth_48 20 x14_1.toInt rfl rfl (by omega) (by omega) (fun y12 ey12 => ?_)
        refine u2_iald F 18 0 xc_18 rfl y12.toInt rfl (by omega) (by omega) dX5_mountTeeth_49 (fun z => (0 : Int) ≤ z.toInt ∧ z.toInt ≤ 15) (by rcases (show y12.toInt = 20 ∨ y12.toInt = 21 ∨ y12.toInt = 22 ∨ y12.toInt = 23 by omega) with h9 | h9 | h9 | h9 <;> (rw [h9]; have h8 := jI14 18; first | exact ⟨Int.le_trans (by decide) (h8 20).1, Int.le_trans (h8 20).2 (by decide)⟩ | exact ⟨Int.le_trans (by decide) (h8 21).1, Int.le_trans (h8 21).2 (by decide)⟩ | exact ⟨Int.le_trans (by decide) (h8 22).1, Int.le_trans (h8 22).2 (by decide)⟩ | exact ⟨Int.le_trans (by decide) (h8 23).1, Int.le_trans (h8 23).2 (by decide)⟩)) (fun y13 by13 => ?_)
        refine u_iast F 44 0 xc_44 rfl x14_1.toInt rfl (by omega) (by omega) (xW K a (gu_up Gj14 44 (x14_1.toInt).toNat y13)) (xs_44 _) dX5_mountTeeth_50 ?_
        refine g_aload_n F 0 dX5_mountTeeth_51 rfl rfl ?_
        refine g_dup F dX5_mountTeeth_52 rfl ?_
        refine xg_6_7 F i_X5 w_0 dX5_mountTeeth_53 (Gj14 6 7) (rfl) ?_
        refine g_iconst F 1 dX5_mountTeeth_56 (by decide) ?_
        have b15 : (0 : Int) ≤ (Gj14 6 7).toInt ∧ (Gj14 6 7).toInt ≤ 4 := jI14 6 7
        refine u_iadd F dX5_mountTeeth_57 (Gj14 6 7).toInt 1 rfl rfl (by omega) (by omega) (fun y14 ey14 => ?_)
        refine xp_6_7 F i_X5 w_0 dX5_mountTeeth_58 ?_
        refine u_iinc F (fun v_ => [(1, .int v_), (0, .ref (a 6))]) dX5_mountTeeth_61 (j := 1) rfl x14_1.toInt 1 rfl rfl (by omega) (by omega) (by decide) (fun _ => rfl) (fun y16 ey16 => ?_)
        refine g_goto F 14 dX5_mountTeeth_64 (by decide) ?_
        refine g_locals [(0, .ref (a 6)), (1, .int y16)] [1, 0] rfl ?_
        exact ih_14 y16 (gu_up (gu_up Gj14 44 (x14_1.toInt).toNat y13) 6 7 y14) (by omega) (by have h9 := ti_rng y16; omega) (gu_I.up (j := 6) (k := 7) (v := y14) (gu_I.up (j := 44) (k := (x14_1.toInt).toNat) (v := y13) jI14 (show (0 : Int) ≤ Int32.toInt y13 by omega) (show Int32.toInt y13 ≤ 15 by omega)) (show (0 : Int) ≤ Int32.toInt y14 by omega) (show Int32.toInt y14 ≤ 4 by omega)) (gu_un.up (j := 6) (k := 7) (v := y14) (gu_un.up (j := 44) (k := (x14_1.toInt).toNat) (v := y13) (gu_un.tr gu_un.rf (gu_un.su jU14 rfl)) (show (4400 : Nat) ∈ ([608, 4400] : List Nat) by decide)) (show (608 : Nat) ∈ ([608, 4400] : List Nat) by decide)) (by have e9_6_7 : (gu_up (gu_up Gj14 44 (x14_1.toInt).toNat y13) 6 7 y14) 6 7 = y14 := rfl; (try simp only [e9_6_7, true_and, and_true]) <;> (first | omega | (simp only [Int32.reduceToInt, true_and, and_true, ne_eq, not_true_eq_false, false_and, or_false, false_or, true_or, or_true, false_implies] <;> omega)))
  refine g_aload_n F 0 dX5_mountTeeth_0 rfl rfl ?_
  refine g_iconst F 0 dX5_mountTeeth_1 (by decide) ?_
  refine xp_6_7 F i_X5 w_0 dX5_mountTeeth_2 ?_
  refine g_aload_n F 0 dX5_mountTeeth_5 rfl rfl ?_
  refine xg_6_6 F i_X5 w_1 dX5_mountTeeth_6 (G 6 6) (rfl) ?_
  refine v_if_ne F 68 dX5_mountTeeth_9 (by decide) (G 6 6).toInt rfl (fun c17 => ?_) (fun c17 => ?_)
  · refine g_iconst F 0 dX5_mountTeeth_68 (by decide) ?_
    refine g_istore_n F [(1, .int 0), (0, .ref (a 6))] dX5_mountTeeth_69 rfl (by decide) rfl ?_
    refine g_locals [(0, .ref (a 6)), (1, .int 0)] [1, 0] rfl ?_
    exact J_70 _ 0 (gu_up G 6 7 0) (Nat.lt_succ_self _) (by decide) (gu_I.up (j := 6) (k := 7) (v := 0) hI (show (0 : Int) ≤ (0 : Int32).toInt by decide) (show (0 : Int32).toInt ≤ 4 by decide)) (gu_un.up (j := 6) (k := 7) (v := 0) gu_un.rf (show (608 : Nat) ∈ ([608, 4400] : List Nat) by decide))
  · refine g_iconst F 0 dX5_mountTeeth_12 (by decide) ?_
    refine g_istore_n F [(1, .int 0), (0, .ref (a 6))] dX5_mountTeeth_13 rfl (by decide) rfl ?_
    refine g_locals [(0, .ref (a 6)), (1, .int 0)] [1, 0] rfl ?_
    exact J_14 _ 0 (gu_up G 6 7 0) (Nat.lt_succ_self _) (by decide) (gu_I.up (j := 6) (k := 7) (v := 0) hI (show (0 : Int) ≤ (0 : Int32).toInt by decide) (show (0 : Int32).toInt ≤ 4 by decide)) (gu_un.up (j := 6) (k := 7) (v := 0) gu_un.rf (show (608 : Nat) ∈ ([608, 4400] : List Nat) by decide)) (by have e9_6_7 : (gu_up G 6 7 0) 6 7 = 0 := rfl; (try simp only [e9_6_7, true_and, and_true]) <;> (first | omega | (simp only [Int32.reduceToInt, true_and, and_true, ne_eq, not_true_eq_false, false_and, or_false, false_or, true_or, or_true, false_implies] <;> omega)))


set_option maxHeartbeats 4000000 in
set_option maxRecDepth 100000 in
theorem S_J7_fill_53178_46 (l : Launch) (D : va_G) (K : Nat → ClassId) (a : Nat → Nat) (G : gS) (p1 : Int32) (s1 : Int) (e1 : p1.toInt = s1) (hI : xI G) (sz : Nat) : Kv l yJ7_fill_53178 wsJ7_fill_53178 1 40 0 0 D [.ref (a 46), .int p1] (xW K a G) (tK K) sz (fun (G' : gS) => (xI G') ∧ (gu_un xcd [4600] G G')) (fun (G' : gS) => (xW K a G')) (fun _ => (tK K)) := by
  unfold Kv
  refine g_ofW (cc := cJ7_fill_53178) (lv := [(0, .ref (a 46)), (1, .int p1)]) (by decide +kernel) rfl (Nat.le_of_ble_eq_true rfl) rfl ?_
  intro p e s m args below meth c A Q hA hQ F hr hnm
  have hts := F.2.2.2.2.1
  have rg1 : -2147483648 ≤ s1 ∧ s1 ≤ 2147483647 := e1 ▸ ti_rng p1
  have J_5 : ∀ (fuel : Nat) (x5_2 : Int32) (Gj5 : gS), (2147483647 - x5_2.toInt).toNat < fuel → (0 ≤ x5_2.toInt ∧ x5_2.toInt ≤ 16) → (xI Gj5) → (gu_un xcd [4600] G Gj5) → gG p l e (gR 1 0 0 40) s m args below meth c D A 4 Q 0 0 (xW K a Gj5) (tK K) [(0, .ref (a 46)), (1, .int p1), (2, .int x5_2), (3, .int 16)] 5 [] := by
    intro fuel
    induction fuel with
    | zero => intro x5_2 Gj5 hm; exact absurd hm (Nat.not_lt_zero _)
    | succ fuel_5 ih_5 =>
      intro x5_2 Gj5 hm_5 h5_2 jI5 jU5
      refine g_iload_n F 2 dJ7_fill_53178_5 rfl rfl ?_
      refine g_iload_n F 3 dJ7_fill_53178_6 rfl rfl ?_
      refine v_icmp_ge F 20 dJ7_fill_53178_7 (by decide) x5_2.toInt 16 rfl rfl (fun c1 => ?_) (fun c1 => ?_)
      · exact u_vret F hA hQ hr Gj5 (⟨jI5, (gu_un.tr gu_un.rf (gu_un.su jU5 rfl))⟩) rfl rfl dJ7_fill_53178_20
      · refine g_aload_n F 0 dJ7_fill_53178_10 rfl rfl ?_
        refine g_iload_n F 2 dJ7_fill_53178_11 rfl rfl ?_
        refine g_iload_n F 1 dJ7_fill_53178_12 rfl rfl ?_
        refine u_iast F 46 0 xc_46 rfl x5_2.toInt rfl (by omega) (by omega) (xW K a (gu_up Gj5 46 (x5_2.toInt).toNat p1)) (xs_46 _) dJ7_fill_53178_13 ?_
        refine u_iinc F (fun v_ => [(2, .int v_), (0, .ref (a 46)), (1, .int p1), (3, .int 16)]) dJ7_fill_53178_14 (j := 2) rfl x5_2.toInt 1 rfl rfl (by omega) (by omega) (by decide) (fun _ => rfl) (fun y2 ey2 => ?_)
        refine g_goto F 5 dJ7_fill_53178_17 (by decide) ?_
        refine g_locals [(0, .ref (a 46)), (1, .int p1), (2, .int y2), (3, .int 16)] [1, 2, 0, 3] rfl ?_
        exact ih_5 y2 (gu_up Gj5 46 (x5_2.toInt).toNat p1) (by omega) (by have h9 := ti_rng y2; omega) (gu_I.up (j := 46) (k := (x5_2.toInt).toNat) (v := p1) jI5 (ti_rng _).1 (ti_rng _).2) (gu_un.up (j := 46) (k := (x5_2.toInt).toNat) (v := p1) (gu_un.tr gu_un.rf (gu_un.su jU5 rfl)) (show (4600 : Nat) ∈ ([4600] : List Nat) by decide))
  refine g_iconst F 0 dJ7_fill_53178_0 (by decide) ?_
  refine g_istore_n F [(2, .int 0), (0, .ref (a 46)), (1, .int p1)] dJ7_fill_53178_1 rfl (by decide) rfl ?_
  refine g_aload_n F 1 dJ7_fill_53178_2 rfl rfl ?_
  refine g_alen F 46 0 xc_46 rfl 16 rfl dJ7_fill_53178_3 ?_
  refine g_istore_n F [(3, .int 16), (2, .int 0), (0, .ref (a 46)), (1, .int p1)] dJ7_fill_53178_4 rfl (by decide) rfl ?_
  refine g_locals [(0, .ref (a 46)), (1, .int p1), (2, .int 0), (3, .int 16)] [2, 3, 1, 0] rfl ?_
  exact J_5 _ 0 G (Nat.lt_succ_self _) (by decide) hI gu_un.rf

theorem dX5_begin_0 : decode cX5_begin 0 = .ok (.aload_n 0, 1) := by decide +kernel
theorem dX5_begin_1 : decode cX5_begin 1 = .ok (.invokevirtual 119, 3) := by decide +kernel
theorem dX5_begin_4 : decode cX5_begin 4 = .ok (.aload_n 0, 1) := by decide +kernel
theorem dX5_begin_5 : decode cX5_begin 5 = .ok (.getfield 20, 3) := by decide +kernel
theorem dX5_begin_8 : decode cX5_begin 8 = .ok (.iconst (-1), 1) := by decide +kernel
theorem dX5_begin_9 : decode cX5_begin 9 = .ok (.invokestatic 122, 3) := by decide +kernel
theorem dX5_begin_12 : decode cX5_begin 12 = .ok (.aload_n 0, 1) := by decide +kernel
theorem dX5_begin_13 : decode cX5_begin 13 = .ok (.iload_n 1, 1) := by decide +kernel
theorem dX5_begin_14 : decode cX5_begin 14 = .ok (.putfield 128, 3) := by decide +kernel
theorem dX5_begin_17 : decode cX5_begin 17 = .ok (.aload_n 0, 1) := by decide +kernel
theorem dX5_begin_18 : decode cX5_begin 18 = .ok (.iconst 0, 1) := by decide +kernel
theorem dX5_begin_19 : decode cX5_begin 19 = .ok (.putfield 131, 3) := by decide +kernel
theorem dX5_begin_22 : decode cX5_begin 22 = .ok (.aload_n 0, 1) := by decide +kernel
theorem dX5_begin_23 : decode cX5_begin 23 = .ok (.iconst 0, 1) := by decide +kernel
theorem dX5_begin_24 : decode cX5_begin 24 = .ok (.putfield 134, 3) := by decide +kernel
theorem dX5_begin_27 : decode cX5_begin 27 = .ok (.aload_n 0, 1) := by decide +kernel
theorem dX5_begin_28 : decode cX5_begin 28 = .ok (.iconst 0, 1) := by decide +kernel
theorem dX5_begin_29 : decode cX5_begin 29 = .ok (.putfield 137, 3) := by decide +kernel
theorem dX5_begin_32 : decode cX5_begin 32 = .ok (.aload_n 0, 1) := by decide +kernel
theorem dX5_begin_33 : decode cX5_begin 33 = .ok (.iconst 0, 1) := by decide +kernel
theorem dX5_begin_34 : decode cX5_begin 34 = .ok (.putfield 140, 3) := by decide +kernel
theorem dX5_begin_37 : decode cX5_begin 37 = .ok (.aload_n 0, 1) := by decide +kernel
theorem dX5_begin_38 : decode cX5_begin 38 = .ok (.iconst 0, 1) := by decide +kernel
theorem dX5_begin_39 : decode cX5_begin 39 = .ok (.putfield 143, 3) := by decide +kernel
theorem dX5_begin_42 : decode cX5_begin 42 = .ok (.aload_n 0, 1) := by decide +kernel
theorem dX5_begin_43 : decode cX5_begin 43 = .ok (.iconst 0, 1) := by decide +kernel
theorem dX5_begin_44 : decode cX5_begin 44 = .ok (.putfield 83, 3) := by decide +kernel
theorem dX5_begin_47 : decode cX5_begin 47 = .ok (.return_, 1) := by decide +kernel
set_option maxRecDepth 20000 in
theorem ggX5_begin_J7_fill_53178 : GoodIn wsX5_begin wsJ7_fill_53178 := goodIn_r _ [22] rfl (by decide +kernel)
set_option maxRecDepth 20000 in
theorem gX5_begin_J7_fill_53178 : GoodIn wsX5_begin (va_wsS RX5 122 yJ7_fill_53178 wsJ7_fill_53178) := goodIn_app (goodIn_of _ (by decide +kernel)) ggX5_begin_J7_fill_53178
set_option maxRecDepth 20000 in
theorem ggX5_begin_X5_mountTeeth : GoodIn wsX5_begin wsX5_mountTeeth := goodIn_r _ [13, 14, 15, 16, 17, 18, 23, 24, 25, 26, 27, 28, 29, 30, 31, 32, 33, 34, 35, 36, 37, 38, 39, 40, 41, 42, 43, 44, 45, 46] rfl (by decide +kernel)
set_option maxRecDepth 20000 in
theorem gX5_begin_X5_mountTeeth : GoodIn wsX5_begin (wsV RX5 119 RX5 yX5_mountTeeth wsX5_mountTeeth) := goodIn_app (goodIn_of _ (by decide +kernel)) ggX5_begin_X5_mountTeeth
set_option maxHeartbeats 4000000 in
set_option maxRecDepth 100000 in
theorem S_X5_begin (l : Launch) (D : va_G) (K : Nat → ClassId) (a : Nat → Nat) (G : gS) (p0 : Int32) (s0 : Int) (e0 : p0.toInt = s0) (hI : xI G) (sz : Nat) : Kv l yX5_begin wsX5_begin 2 63 0 0 D [.ref (a 6), .int p0] (xW K a G) (tK K) sz (fun (G' : gS) => (xI G') ∧ (gu_un xcd [608, 613, 614, 615, 617, 618, 619, 620, 4400, 4600] G G')) (fun (G' : gS) => (xW K a G')) (fun _ => (tK K)) := by
  unfold Kv
  refine g_ofW (cc := cX5_begin) (lv := [(0, .ref (a 6)), (1, .int p0)]) (by decide) rfl (Nat.le_of_ble_eq_true rfl) rfl ?_
  intro p e s m args below meth c A Q hA hQ F hr hnm
  have hts := F.2.2.2.2.1
  have w_0 : (Cond.fieldLink RX5 20 "QuietCut$Lathe" "leftTurn" "[I").before args s = true := hts _ (List.mem_of_getElem? (i := 1) rfl)
  have i_X5 : ∀ w ∈ u_ws RX5 TX5 20, w ∈ wsX5_begin := fun _ h => List.mem_cons_of_mem _ (List.mem_append_left _ (List.mem_append_right _ h))
  have w_1 : (Cond.fieldLink RX5 128 "QuietCut$Lathe" "wear" "I").before args s = true := hts _ (List.mem_of_getElem? (i := 2) rfl)
  have w_2 : (Cond.fieldLink RX5 131 "QuietCut$Lathe" "x" "I").before args s = true := hts _ (List.mem_of_getElem? (i := 3) rfl)
  have w_3 : (Cond.fieldLink RX5 134 "QuietCut$Lathe" "v" "I").before args s = true := hts _ (List.mem_of_getElem? (i := 4) rfl)
  have w_4 : (Cond.fieldLink RX5 137 "QuietCut$Lathe" "time" "I").before args s = true := hts _ (List.mem_of_getElem? (i := 5) rfl)
  have w_5 : (Cond.fieldLink RX5 140 "QuietCut$Lathe" "out" "I").before args s = true := hts _ (List.mem_of_getElem? (i := 6) rfl)
  have w_6 : (Cond.fieldLink RX5 143 "QuietCut$Lathe" "farthest" "I").before args s = true := hts _ (List.mem_of_getElem? (i := 7) rfl)
  have w_7 : (Cond.fieldLink RX5 83 "QuietCut$Lathe" "begun" "I").before args s = true := hts _ (List.mem_of_getElem? (i := 8) rfl)
  have rg0 : -2147483648 ≤ s0 ∧ s0 ≤ 2147483647 := e0 ▸ ti_rng p0
  refine g_aload_n F 0 dX5_begin_0 rfl rfl ?_
  refine u_callVv (k := 0) (n := 0) (b := a 6) (As := []) (st := []) F (fun sz => S_X5_mountTeeth l D K a G  hI sz) (cwV 0 hts gX5_begin_X5_mountTeeth rfl rfl rfl (by decide +kernel) ⟨Nat.le_of_ble_eq_true rfl, Nat.le_of_ble_eq_true rfl⟩) rfl 6 xc_6 rfl (Nat.le_of_ble_eq_true rfl) ⟨Nat.zero_le _, Nat.zero_le _⟩ dX5_begin_1 (fun G3 hw2 => ?_)
  have hI4 : xI G3 := hw2.1
  have hU5 : gu_un xcd [608, 4400] G G3 := hw2.2
  refine g_aload_n F 0 dX5_begin_4 rfl rfl ?_
  refine xg_6_9 F i_X5 w_0 dX5_begin_5 ?_
  refine g_iconst F (-1) dX5_begin_8 (by decide) ?_
  refine u_callSv (k := 0) (n := 0) (As := [.ref (a 46), .int (-1)]) (st := []) F (fun sz => S_J7_fill_53178_46 l D K a G3 (-1) (-1) rfl hI4 sz) (va_cwS 2 hts gX5_begin_J7_fill_53178 rfl rfl rfl (by decide +kernel) ⟨Nat.le_of_ble_eq_true rfl, Nat.le_of_ble_eq_true rfl⟩) rfl (Nat.le_of_ble_eq_true rfl) ⟨Nat.zero_le _, Nat.zero_le _⟩ dX5_begin_9 (fun G9 hw8 => ?_)
  have hI10 : xI G9 := hw8.1
  have hU11 : gu_un xcd [4600] G3 G9 := hw8.2
  refine g_aload_n F 0 dX5_begin_12 rfl rfl ?_
  refine g_iload_n F 1 dX5_begin_13 rfl rfl ?_
  refine xp_6_12 F i_X5 w_1 dX5_begin_14 ?_
  refine g_aload_n F 0 dX5_begin_17 rfl rfl ?_
  refine g_iconst F 0 dX5_begin_18 (by decide) ?_
  refine xp_6_13 F i_X5 w_2 dX5_begin_19 ?_
  refine g_aload_n F 0 dX5_begin_22 rfl rfl ?_
  refine g_iconst F 0 dX5_begin_23 (by decide) ?_
  refine xp_6_14 F i_X5 w_3 dX5_begin_24 ?_
  refine g_aload_n F 0 dX5_begin_27 rfl rfl ?_
  refine g_iconst F 0 dX5_begin_28 (by decide) ?_
  refine xp_6_16 F i_X5 w_4 dX5_begin_29 ?_
  refine g_aload_n F 0 dX5_begin_32 rfl rfl ?_
  refine g_iconst F 0 dX5_begin_33 (by decide) ?_
  refine xp_6_17 F i_X5 w_5 dX5_begin_34 ?_
  refine g_aload_n F 0 dX5_begin_37 rfl rfl ?_
  refine g_iconst F 0 dX5_begin_38 (by decide) ?_
  refine xp_6_18 F i_X5 w_6 dX5_begin_39 ?_
  refine g_aload_n F 0 dX5_begin_42 rfl rfl ?_
  refine g_iconst F 0 dX5_begin_43 (by decide) ?_
  refine xp_6_19 F i_X5 w_7 dX5_begin_44 ?_
  exact u_vret F hA hQ hr (gu_up (gu_up (gu_up (gu_up (gu_up (gu_up (gu_up G9 6 12 p0) 6 13 0) 6 14 0) 6 16 0) 6 17 0) 6 18 0) 6 19 0) (⟨(gu_I.up (j := 6) (k := 19) (v := 0) (gu_I.up (j := 6) (k := 18) (v := 0) (gu_I.up (j := 6) (k := 17) (v := 0) (gu_I.up (j := 6) (k := 16) (v := 0) (gu_I.up (j := 6) (k := 14) (v := 0) (gu_I.up (j := 6) (k := 13) (v := 0) (gu_I.up (j := 6) (k := 12) (v := p0) hI10 (ti_rng _).1 (ti_rng _).2) (ti_rng _).1 (ti_rng _).2) (ti_rng _).1 (ti_rng _).2) (ti_rng _).1 (ti_rng _).2) (ti_rng _).1 (ti_rng _).2) (ti_rng _).1 (ti_rng _).2) (ti_rng _).1 (ti_rng _).2), (gu_un.up (j := 6) (k := 19) (v := 0) (gu_un.up (j := 6) (k := 18) (v := 0) (gu_un.up (j := 6) (k := 17) (v := 0) (gu_un.up (j := 6) (k := 16) (v := 0) (gu_un.up (j := 6) (k := 14) (v := 0) (gu_un.up (j := 6) (k := 13) (v := 0) (gu_un.up (j := 6) (k := 12) (v := p0) (gu_un.tr (gu_un.tr gu_un.rf (gu_un.su hU5 rfl)) (gu_un.su hU11 rfl)) (show (613 : Nat) ∈ ([608, 613, 614, 615, 617, 618, 619, 620, 4400, 4600] : List Nat) by decide)) (show (614 : Nat) ∈ ([608, 613, 614, 615, 617, 618, 619, 620, 4400, 4600] : List Nat) by decide)) (show (615 : Nat) ∈ ([608, 613, 614, 615, 617, 618, 619, 620, 4400, 4600] : List Nat) by decide)) (show (617 : Nat) ∈ ([608, 613, 614, 615, 617, 618, 619, 620, 4400, 4600] : List Nat) by decide)) (show (618 : Nat) ∈ ([608, 613, 614, 615, 617, 618, 619, 620, 4400, 4600] : List Nat) by decide)) (show (619 : Nat) ∈ ([608, 613, 614, 615, 617, 618, 619, 620, 4400, 4600] : List Nat) by decide)) (show (620 : Nat) ∈ ([608, 613, 614, 615, 617, 618, 619, 620, 4400, 4600] : List Nat) by decide))⟩) rfl rfl dX5_begin_47

theorem dX5_within_0 : decode cX5_within 0 = .ok (.iload_n 1, 1) := by decide +kernel
theorem dX5_within_1 : decode cX5_within 1 = .ok (.iload_n 2, 1) := by decide +kernel
theorem dX5_within_2 : decode cX5_within 2 = .ok (.iload_n 0, 1) := by decide +kernel
theorem dX5_within_3 : decode cX5_within 3 = .ok (.invokestatic 159, 3) := by decide +kernel
theorem dX5_within_6 : decode cX5_within 6 = .ok (.invokestatic 146, 3) := by decide +kernel
theorem dX5_within_9 : decode cX5_within 9 = .ok (.ireturn, 1) := by decide +kernel
set_option maxHeartbeats 4000000 in
set_option maxRecDepth 100000 in
theorem S_X5_within (l : Launch) (D : va_G)  (p0 : Int32) (s0 : Int) (p1 : Int32) (s1 : Int) (p2 : Int32) (s2 : Int) (e0 : p0.toInt = s0) (e1 : p1.toInt = s1) (e2 : p2.toInt = s2) (sz : Nat) : Ki l yX5_within wsX5_within 1 40 0 0 D [.int p0, .int p1, .int p2] [] [] sz (fun (r : Int32) (_ : Unit) => True) (fun (_ : Unit) => []) (fun _ => []) := by
  unfold Ki
  refine g_ofW (cc := cX5_within) (lv := [(0, .int p0), (1, .int p1), (2, .int p2)]) (by decide) rfl (Nat.le_of_ble_eq_true rfl) rfl ?_
  intro p e s m args below meth c A Q hA hQ F hr hnm
  have hts := F.2.2.2.2.1
  have w_0 : (Cond.methodLink RX5 159 Lib.Math.min.name).before args s = true := hts _ (List.mem_of_getElem? (i := 1) rfl)
  have w_1 : (Cond.static Lib.Math.min.name).before args s = true := hts _ (List.mem_of_getElem? (i := 2) rfl)
  have w_2 : (Cond.initialized "java/lang/Math").before args s = true := hts _ (List.mem_of_getElem? (i := 3) rfl)
  have w_3 : (Cond.code Lib.Math.min.name Lib.Math.min.code 2 (some .int)).before args s = true := hts _ (List.mem_of_getElem? (i := 4) rfl)
  have w_4 : (Cond.methodLink RX5 146 Lib.Math.max.name).before args s = true := hts _ (List.mem_of_getElem? (i := 5) rfl)
  have w_5 : (Cond.static Lib.Math.max.name).before args s = true := hts _ (List.mem_of_getElem? (i := 6) rfl)
  have w_6 : (Cond.code Lib.Math.max.name Lib.Math.max.code 2 (some .int)).before args s = true := hts _ (List.mem_of_getElem? (i := 7) rfl)
  have rg0 : -2147483648 ≤ s0 ∧ s0 ≤ 2147483647 := e0 ▸ ti_rng p0
  have rg1 : -2147483648 ≤ s1 ∧ s1 ≤ 2147483647 := e1 ▸ ti_rng p1
  have rg2 : -2147483648 ≤ s2 ∧ s2 ≤ 2147483647 := e2 ▸ ti_rng p2
  refine g_iload_n F 1 dX5_within_0 rfl rfl ?_
  refine g_iload_n F 2 dX5_within_1 rfl rfl ?_
  refine g_iload_n F 0 dX5_within_2 rfl rfl ?_
  refine u_mmin F w_0 w_1 w_2 w_3 (Nat.le_of_ble_eq_true rfl) (Nat.le_of_ble_eq_true rfl) (Nat.le_of_ble_eq_true rfl) (Nat.le_of_ble_eq_true rfl) dX5_within_3 s2 s0 e2 e0 (fun y1 ey1 => ?_)
  refine u_mmax F w_4 w_5 w_2 w_6 (Nat.le_of_ble_eq_true rfl) (Nat.le_of_ble_eq_true rfl) (Nat.le_of_ble_eq_true rfl) (Nat.le_of_ble_eq_true rfl) dX5_within_6 s1 y1.toInt e1 rfl (fun y2 ey2 => ?_)
  exact u_iret F hA hQ hr () (trivial) rfl rfl dX5_within_9

theorem dX5_greatest_0 : decode cX5_greatest 0 = .ok (.ldc 162, 2) := by decide +kernel
theorem dX5_greatest_2 : decode cX5_greatest 2 = .ok (.istore_n 3, 1) := by decide +kernel
theorem dX5_greatest_3 : decode cX5_greatest 3 = .ok (.iload_n 1, 1) := by decide +kernel
theorem dX5_greatest_4 : decode cX5_greatest 4 = .ok (.istore 4, 2) := by decide +kernel
theorem dX5_greatest_6 : decode cX5_greatest 6 = .ok (.iload 4, 2) := by decide +kernel
theorem dX5_greatest_8 : decode cX5_greatest 8 = .ok (.iload_n 1, 1) := by decide +kernel
theorem dX5_greatest_9 : decode cX5_greatest 9 = .ok (.iload_n 2, 1) := by decide +kernel
theorem dX5_greatest_10 : decode cX5_greatest 10 = .ok (.iadd, 1) := by decide +kernel
theorem dX5_greatest_11 : decode cX5_greatest 11 = .ok (.if_icmp .ge 30, 3) := by decide +kernel
theorem dX5_greatest_14 : decode cX5_greatest 14 = .ok (.iload 4, 2) := by decide +kernel
theorem dX5_greatest_16 : decode cX5_greatest 16 = .ok (.ifCond .lt 25, 3) := by decide +kernel
theorem dX5_greatest_19 : decode cX5_greatest 19 = .ok (.iload 4, 2) := by decide +kernel
theorem dX5_greatest_21 : decode cX5_greatest 21 = .ok (.aload_n 0, 1) := by decide +kernel
theorem dX5_greatest_22 : decode cX5_greatest 22 = .ok (.arraylength, 1) := by decide +kernel
theorem dX5_greatest_23 : decode cX5_greatest 23 = .ok (.if_icmp .ge 18, 3) := by decide +kernel
theorem dX5_greatest_26 : decode cX5_greatest 26 = .ok (.iload_n 3, 1) := by decide +kernel
theorem dX5_greatest_27 : decode cX5_greatest 27 = .ok (.aload_n 0, 1) := by decide +kernel
theorem dX5_greatest_28 : decode cX5_greatest 28 = .ok (.iload 4, 2) := by decide +kernel
theorem dX5_greatest_30 : decode cX5_greatest 30 = .ok (.iaload, 1) := by decide +kernel
theorem dX5_greatest_31 : decode cX5_greatest 31 = .ok (.invokestatic 146, 3) := by decide +kernel
theorem dX5_greatest_34 : decode cX5_greatest 34 = .ok (.istore_n 3, 1) := by decide +kernel
theorem dX5_greatest_35 : decode cX5_greatest 35 = .ok (.iinc 4 1, 3) := by decide +kernel
theorem dX5_greatest_38 : decode cX5_greatest 38 = .ok (.goto (-32), 3) := by decide +kernel
theorem dX5_greatest_41 : decode cX5_greatest 41 = .ok (.iload_n 3, 1) := by decide +kernel
theorem dX5_greatest_42 : decode cX5_greatest 42 = .ok (.ireturn, 1) := by decide +kernel
set_option maxHeartbeats 4000000 in
set_option maxRecDepth 100000 in
theorem S_X5_greatest_45 (l : Launch) (D : va_G) (K : Nat → ClassId) (a : Nat → Nat) (G : gS) (p1 : Int32) (s1 : Int) (p2 : Int32) (s2 : Int) (e1 : p1.toInt = s1) (e2 : p2.toInt = s2) (hI : xI G) (sz : Nat) : Ki l yX5_greatest wsX5_greatest 1 40 0 0 D [.ref (a 45), .int p1, .int p2] (xW K a G) (tK K) sz (fun (r : Int32) (_ : Unit) => ((-1000000) ≤ r.toInt ∧ r.toInt ≤ 2147483647)) (fun (_ : Unit) => (xW K a G)) (fun _ => (tK K)) := by
  unfold Ki
  refine g_ofW (cc := cX5_greatest) (lv := [(0, .ref (a 45)), (1, .int p1), (2, .int p2)]) (by decide) rfl (Nat.le_of_ble_eq_true rfl) rfl ?_
  intro p e s m args below meth c A Q hA hQ F hr hnm
  have hts := F.2.2.2.2.1
  have w_0 : (Cond.methodLink RX5 146 Lib.Math.max.name).before args s = true := hts _ (List.mem_of_getElem? (i := 2) rfl)
  have w_1 : (Cond.static Lib.Math.max.name).before args s = true := hts _ (List.mem_of_getElem? (i := 3) rfl)
  have w_2 : (Cond.initialized "java/lang/Math").before args s = true := hts _ (List.mem_of_getElem? (i := 4) rfl)
  have w_3 : (Cond.code Lib.Math.max.name Lib.Math.max.code 2 (some .int)).before args s = true := hts _ (List.mem_of_getElem? (i := 5) rfl)
  have w_4 : (Cond.constant RX5 162 (-1000000)).before args s = true := hts _ (List.mem_of_getElem? (i := 1) rfl)
  have rg1 : -2147483648 ≤ s1 ∧ s1 ≤ 2147483647 := e1 ▸ ti_rng p1
  have rg2 : -2147483648 ≤ s2 ∧ s2 ≤ 2147483647 := e2 ▸ ti_rng p2
  have J_6 : ∀ (fuel : Nat) (x6_3 : Int32) (x6_4 : Int32), (2147483647 - x6_4.toInt).toNat < fuel → ((-1000000) ≤ x6_3.toInt ∧ x6_3.toInt ≤ 2147483647) → gG p l e (gR 1 0 0 40) s m args below meth c D A 5 Q 0 0 (xW K a G) (tK K) [(0, .ref (a 45)), (1, .int p1), (2, .int p2), (3, .int x6_3), (4, .int x6_4)] 6 [] := by
    intro fuel
    induction fuel with
    | zero => intro x6_3 x6_4 hm; exact absurd hm (Nat.not_lt_zero _)
    | succ fuel_6 ih_6 =>
      intro x6_3 x6_4 hm_6 h6_3
      refine g_iload F 4 dX5_greatest_6 rfl ?_
      refine g_iload_n F 1 dX5_greatest_8 rfl rfl ?_
      refine g_iload_n F 2 dX5_greatest_9 rfl rfl ?_
      refine u0_iadd F dX5_greatest_10 (fun y1 => ?_)
      have b2 := ti_rng x6_4
      have b3 := ti_rng y1
      refine v_icmp_ge F 41 dX5_greatest_11 (by decide) x6_4.toInt y1.toInt rfl rfl (fun c4 => ?_) (fun c4 => ?_)
      · refine g_iload_n F 3 dX5_greatest_41 rfl rfl ?_
        have b5 := ti_rng x6_3
        exact u_iret F hA hQ hr () ((by have h9 := ti_rng x6_3; omega)) rfl rfl dX5_greatest_42
      · refine g_iload F 4 dX5_greatest_14 rfl ?_
        refine v_if_lt F 41 dX5_greatest_16 (by decide) x6_4.toInt rfl (fun c6 => ?_) (fun c6 => ?_)
        · refine g_iload_n F 3 dX5_greatest_41 rfl rfl ?_
          have b7 := ti_rng x6_3
          exact u_iret F hA hQ hr () ((by have h9 := ti_rng x6_3; omega)) rfl rfl dX5_greatest_42
        · refine g_iload F 4 dX5_greatest_19 rfl ?_
          refine g_aload_n F 0 dX5_greatest_21 rfl rfl ?_
          refine g_alen F 45 0 xc_45 rfl 16 rfl dX5_greatest_22 ?_
          refine v_icmp_ge F 41 dX5_greatest_23 (by decide) x6_4.toInt 16 rfl rfl (fun c8 => ?_) (fun c8 => ?_)
          · refine g_iload_n F 3 dX5_greatest_41 rfl rfl ?_
            have b9 := ti_rng x6_3
            exact u_iret F hA hQ hr () ((by have h9 := ti_rng x6_3; omega)) rfl rfl dX5_greatest_42
          · refine g_iload_n F 3 dX5_greatest_26 rfl rfl ?_
            refine g_aload_n F 0 dX5_greatest_27 rfl rfl ?_
            refine g_iload F 4 dX5_greatest_28 rfl ?_
            refine u_iald F 45 0 xc_45 rfl x6_4.toInt rfl (by omega) (by omega) dX5_greatest_30 (fun _ => True) (fun _ => trivial) (fun y10 by10 => ?_)
            have b12 := ti_rng x6_3
            refine u_mmax F w_0 w_1 w_2 w_3 (Nat.le_of_ble_eq_true rfl) (Nat.le_of_ble_eq_true rfl) (Nat.le_of_ble_eq_true rfl) (Nat.le_of_ble_eq_true rfl) dX5_greatest_31 x6_3.toInt y10.toInt rfl rfl (fun y11 ey11 => ?_)
            refine g_istore_n F [(3, .int y11), (0, .ref (a 45)), (1, .int p1), (2, .int p2), (4, .int x6_4)] dX5_greatest_34 rfl (by decide) rfl ?_
            refine u_iinc F (fun v_ => [(4, .int v_), (3, .int y11), (0, .ref (a 45)), (1, .int p1), (2, .int p2)]) dX5_greatest_35 (j := 4) rfl x6_4.toInt 1 rfl rfl (by omega) (by omega) (by decide) (fun _ => rfl) (fun y13 ey13 => ?_)
            refine g_goto F 6 dX5_greatest_38 (by decide) ?_
            refine g_locals [(0, .ref (a 45)), (1, .int p1), (2, .int p2), (3, .int y11), (4, .int y13)] [2, 3, 4, 1, 0] rfl ?_
            exact ih_6 y11 y13 (by omega) (by have h9 := ti_rng y11; omega)
  refine g_ldc F w_4 dX5_greatest_0 ?_
  refine g_istore_n F [(3, .int (-1000000)), (0, .ref (a 45)), (1, .int p1), (2, .int p2)] dX5_greatest_2 rfl (by decide) rfl ?_
  refine g_iload_n F 2 dX5_greatest_3 rfl rfl ?_
  refine g_istore F [(4, .int p1), (3, .int (-1000000)), (0, .ref (a 45)), (1, .int p1), (2, .int p2)] dX5_greatest_4 (by decide) rfl ?_
  refine g_locals [(0, .ref (a 45)), (1, .int p1), (2, .int p2), (3, .int (-1000000)), (4, .int p1)] [2, 3, 4, 1, 0] rfl ?_
  exact J_6 _ (-1000000) p1 (Nat.lt_succ_self _) (by decide)

theorem dX5_least_0 : decode cX5_least 0 = .ok (.ldc 163, 2) := by decide +kernel
theorem dX5_least_2 : decode cX5_least 2 = .ok (.istore_n 3, 1) := by decide +kernel
theorem dX5_least_3 : decode cX5_least 3 = .ok (.iload_n 1, 1) := by decide +kernel
theorem dX5_least_4 : decode cX5_least 4 = .ok (.istore 4, 2) := by decide +kernel
theorem dX5_least_6 : decode cX5_least 6 = .ok (.iload 4, 2) := by decide +kernel
theorem dX5_least_8 : decode cX5_least 8 = .ok (.iload_n 1, 1) := by decide +kernel
theorem dX5_least_9 : decode cX5_least 9 = .ok (.iload_n 2, 1) := by decide +kernel
theorem dX5_least_10 : decode cX5_least 10 = .ok (.iadd, 1) := by decide +kernel
theorem dX5_least_11 : decode cX5_least 11 = .ok (.if_icmp .ge 30, 3) := by decide +kernel
theorem dX5_least_14 : decode cX5_least 14 = .ok (.iload 4, 2) := by decide +kernel
theorem dX5_least_16 : decode cX5_least 16 = .ok (.ifCond .lt 25, 3) := by decide +kernel
theorem dX5_least_19 : decode cX5_least 19 = .ok (.iload 4, 2) := by decide +kernel
theorem dX5_least_21 : decode cX5_least 21 = .ok (.aload_n 0, 1) := by decide +kernel
theorem dX5_least_22 : decode cX5_least 22 = .ok (.arraylength, 1) := by decide +kernel
theorem dX5_least_23 : decode cX5_least 23 = .ok (.if_icmp .ge 18, 3) := by decide +kernel
theorem dX5_least_26 : decode cX5_least 26 = .ok (.iload_n 3, 1) := by decide +kernel
theorem dX5_least_27 : decode cX5_least 27 = .ok (.aload_n 0, 1) := by decide +kernel
theorem dX5_least_28 : decode cX5_least 28 = .ok (.iload 4, 2) := by decide +kernel
theorem dX5_least_30 : decode cX5_least 30 = .ok (.iaload, 1) := by decide +kernel
theorem dX5_least_31 : decode cX5_least 31 = .ok (.invokestatic 159, 3) := by decide +kernel
theorem dX5_least_34 : decode cX5_least 34 = .ok (.istore_n 3, 1) := by decide +kernel
theorem dX5_least_35 : decode cX5_least 35 = .ok (.iinc 4 1, 3) := by decide +kernel
theorem dX5_least_38 : decode cX5_least 38 = .ok (.goto (-32), 3) := by decide +kernel
theorem dX5_least_41 : decode cX5_least 41 = .ok (.iload_n 3, 1) := by decide +kernel
theorem dX5_least_42 : decode cX5_least 42 = .ok (.ireturn, 1) := by decide +kernel
set_option maxHeartbeats 4000000 in
set_option maxRecDepth 100000 in
theorem S_X5_least_38 (l : Launch) (D : va_G) (K : Nat → ClassId) (a : Nat → Nat) (G : gS) (p1 : Int32) (s1 : Int) (p2 : Int32) (s2 : Int) (e1 : p1.toInt = s1) (e2 : p2.toInt = s2) (hI : xI G) (sz : Nat) : Ki l yX5_least wsX5_least 1 40 0 0 D [.ref (a 38), .int p1, .int p2] (xW K a G) (tK K) sz (fun (r : Int32) (_ : Unit) => ((-2147483648) ≤ r.toInt ∧ r.toInt ≤ 1000000)) (fun (_ : Unit) => (xW K a G)) (fun _ => (tK K)) := by
  unfold Ki
  refine g_ofW (cc := cX5_least) (lv := [(0, .ref (a 38)), (1, .int p1), (2, .int p2)]) (by decide) rfl (Nat.le_of_ble_eq_true rfl) rfl ?_
  intro p e s m args below meth c A Q hA hQ F hr hnm
  have hts := F.2.2.2.2.1
  have w_0 : (Cond.methodLink RX5 159 Lib.Math.min.name).before args s = true := hts _ (List.mem_of_getElem? (i := 2) rfl)
  have w_1 : (Cond.static Lib.Math.min.name).before args s = true := hts _ (List.mem_of_getElem? (i := 3) rfl)
  have w_2 : (Cond.initialized "java/lang/Math").before args s = true := hts _ (List.mem_of_getElem? (i := 4) rfl)
  have w_3 : (Cond.code Lib.Math.min.name Lib.Math.min.code 2 (some .int)).before args s = true := hts _ (List.mem_of_getElem? (i := 5) rfl)
  have w_4 : (Cond.constant RX5 163 (1000000)).before args s = true := hts _ (List.mem_of_getElem? (i := 1) rfl)
  have rg1 : -2147483648 ≤ s1 ∧ s1 ≤ 2147483647 := e1 ▸ ti_rng p1
  have rg2 : -2147483648 ≤ s2 ∧ s2 ≤ 2147483647 := e2 ▸ ti_rng p2
  have J_6 : ∀ (fuel : Nat) (x6_3 : Int32) (x6_4 : Int32), (2147483647 - x6_4.toInt).toNat < fuel → ((-2147483648) ≤ x6_3.toInt ∧ x6_3.toInt ≤ 1000000) → gG p l e (gR 1 0 0 40) s m args below meth c D A 5 Q 0 0 (xW K a G) (tK K) [(0, .ref (a 38)), (1, .int p1), (2, .int p2), (3, .int x6_3), (4, .int x6_4)] 6 [] := by
    intro fuel
    induction fuel with
    | zero => intro x6_3 x6_4 hm; exact absurd hm (Nat.not_lt_zero _)
    | succ fuel_6 ih_6 =>
      intro x6_3 x6_4 hm_6 h6_3
      refine g_iload F 4 dX5_least_6 rfl ?_
      refine g_iload_n F 1 dX5_least_8 rfl rfl ?_
      refine g_iload_n F 2 dX5_least_9 rfl rfl ?_
      refine u0_iadd F dX5_least_10 (fun y1 => ?_)
      have b2 := ti_rng x6_4
      have b3 := ti_rng y1
      refine v_icmp_ge F 41 dX5_least_11 (by decide) x6_4.toInt y1.toInt rfl rfl (fun c4 => ?_) (fun c4 => ?_)
      · refine g_iload_n F 3 dX5_least_41 rfl rfl ?_
        have b5 := ti_rng x6_3
        exact u_iret F hA hQ hr () ((by have h9 := ti_rng x6_3; omega)) rfl rfl dX5_least_42
      · refine g_iload F 4 dX5_least_14 rfl ?_
        refine v_if_lt F 41 dX5_least_16 (by decide) x6_4.toInt rfl (fun c6 => ?_) (fun c6 => ?_)
        · refine g_iload_n F 3 dX5_least_41 rfl rfl ?_
          have b7 := ti_rng x6_3
          exact u_iret F hA hQ hr () ((by have h9 := ti_rng x6_3; omega)) rfl rfl dX5_least_42
        · refine g_iload F 4 dX5_least_19 rfl ?_
          refine g_aload_n F 0 dX5_least_21 rfl rfl ?_
          refine g_alen F 38 0 xc_38 rfl 96 rfl dX5_least_22 ?_
          refine v_icmp_ge F 41 dX5_least_23 (by decide) x6_4.toInt 96 rfl rfl (fun c8 => ?_) (fun c8 => ?_)
          · refine g_iload_n F 3 dX5_least_41 rfl rfl ?_
            have b9 := ti_rng x6_3
            exact u_iret F hA hQ hr () ((by have h9 := ti_rng x6_3; omega)) rfl rfl dX5_least_42
          · refine g_iload_n F 3 dX5_least_26 rfl rfl ?_
            refine g_aload_n F 0 dX5_least_27 rfl rfl ?_
            refine g_iload F 4 dX5_least_28 rfl ?_
            refine u_iald F 38 0 xc_38 rfl x6_4.toInt rfl (by omega) (by omega) dX5_least_30 (fun _ => True) (fun _ => trivial) (fun y10 by10 => ?_)
            have b12 := ti_rng x6_3
            refine u_mmin F w_0 w_1 w_2 w_3 (Nat.le_of_ble_eq_true rfl) (Nat.le_of_ble_eq_true rfl) (Nat.le_of_ble_eq_true rfl) (Nat.le_of_ble_eq_true rfl) dX5_least_31 x6_3.toInt y10.toInt rfl rfl (fun y11 ey11 => ?_)
            refine g_istore_n F [(3, .int y11), (0, .ref (a 38)), (1, .int p1), (2, .int p2), (4, .int x6_4)] dX5_least_34 rfl (by decide) rfl ?_
            refine u_iinc F (fun v_ => [(4, .int v_), (3, .int y11), (0, .ref (a 38)), (1, .int p1), (2, .int p2)]) dX5_least_35 (j := 4) rfl x6_4.toInt 1 rfl rfl (by omega) (by omega) (by decide) (fun _ => rfl) (fun y13 ey13 => ?_)
            refine g_goto F 6 dX5_least_38 (by decide) ?_
            refine g_locals [(0, .ref (a 38)), (1, .int p1), (2, .int p2), (3, .int y11), (4, .int y13)] [2, 3, 4, 1, 0] rfl ?_
            exact ih_6 y11 y13 (by omega) (by have h9 := ti_rng y11; omega)
  refine g_ldc F w_4 dX5_least_0 ?_
  refine g_istore_n F [(3, .int 1000000), (0, .ref (a 38)), (1, .int p1), (2, .int p2)] dX5_least_2 rfl (by decide) rfl ?_
  refine g_iload_n F 2 dX5_least_3 rfl rfl ?_
  refine g_istore F [(4, .int p1), (3, .int 1000000), (0, .ref (a 38)), (1, .int p1), (2, .int p2)] dX5_least_4 (by decide) rfl ?_
  refine g_locals [(0, .ref (a 38)), (1, .int p1), (2, .int p2), (3, .int 1000000), (4, .int p1)] [2, 3, 4, 1, 0] rfl ?_
  exact J_6 _ 1000000 p1 (Nat.lt_succ_self _) (by decide)

theorem dX5_swingsTooFar_0 : decode cX5_swingsTooFar 0 = .ok (.iconst 1, 1) := by decide +kernel
theorem dX5_swingsTooFar_1 : decode cX5_swingsTooFar 1 = .ok (.aload_n 0, 1) := by decide +kernel
theorem dX5_swingsTooFar_2 : decode cX5_swingsTooFar 2 = .ok (.getfield 29, 3) := by decide +kernel
theorem dX5_swingsTooFar_5 : decode cX5_swingsTooFar 5 = .ok (.getfield 56, 3) := by decide +kernel
theorem dX5_swingsTooFar_8 : decode cX5_swingsTooFar 8 = .ok (.iconst 2, 1) := by decide +kernel
theorem dX5_swingsTooFar_9 : decode cX5_swingsTooFar 9 = .ok (.iaload, 1) := by decide +kernel
theorem dX5_swingsTooFar_10 : decode cX5_swingsTooFar 10 = .ok (.invokestatic 146, 3) := by decide +kernel
theorem dX5_swingsTooFar_13 : decode cX5_swingsTooFar 13 = .ok (.istore 5, 2) := by decide +kernel
theorem dX5_swingsTooFar_15 : decode cX5_swingsTooFar 15 = .ok (.aload_n 0, 1) := by decide +kernel
theorem dX5_swingsTooFar_16 : decode cX5_swingsTooFar 16 = .ok (.getfield 29, 3) := by decide +kernel
theorem dX5_swingsTooFar_19 : decode cX5_swingsTooFar 19 = .ok (.getfield 56, 3) := by decide +kernel
theorem dX5_swingsTooFar_22 : decode cX5_swingsTooFar 22 = .ok (.bipush 7, 2) := by decide +kernel
theorem dX5_swingsTooFar_24 : decode cX5_swingsTooFar 24 = .ok (.iaload, 1) := by decide +kernel
theorem dX5_swingsTooFar_25 : decode cX5_swingsTooFar 25 = .ok (.istore 6, 2) := by decide +kernel
theorem dX5_swingsTooFar_27 : decode cX5_swingsTooFar 27 = .ok (.aload_n 0, 1) := by decide +kernel
theorem dX5_swingsTooFar_28 : decode cX5_swingsTooFar 28 = .ok (.getfield 131, 3) := by decide +kernel
theorem dX5_swingsTooFar_31 : decode cX5_swingsTooFar 31 = .ok (.istore 7, 2) := by decide +kernel
theorem dX5_swingsTooFar_33 : decode cX5_swingsTooFar 33 = .ok (.aload_n 0, 1) := by decide +kernel
theorem dX5_swingsTooFar_34 : decode cX5_swingsTooFar 34 = .ok (.getfield 134, 3) := by decide +kernel
theorem dX5_swingsTooFar_37 : decode cX5_swingsTooFar 37 = .ok (.istore 8, 2) := by decide +kernel
theorem dX5_swingsTooFar_39 : decode cX5_swingsTooFar 39 = .ok (.aload_n 0, 1) := by decide +kernel
theorem dX5_swingsTooFar_40 : decode cX5_swingsTooFar 40 = .ok (.getfield 143, 3) := by decide +kernel
theorem dX5_swingsTooFar_43 : decode cX5_swingsTooFar 43 = .ok (.istore 9, 2) := by decide +kernel
theorem dX5_swingsTooFar_45 : decode cX5_swingsTooFar 45 = .ok (.iconst 0, 1) := by decide +kernel
theorem dX5_swingsTooFar_46 : decode cX5_swingsTooFar 46 = .ok (.istore 10, 2) := by decide +kernel
theorem dX5_swingsTooFar_48 : decode cX5_swingsTooFar 48 = .ok (.iconst 0, 1) := by decide +kernel
theorem dX5_swingsTooFar_49 : decode cX5_swingsTooFar 49 = .ok (.istore 11, 2) := by decide +kernel
theorem dX5_swingsTooFar_51 : decode cX5_swingsTooFar 51 = .ok (.iload 11, 2) := by decide +kernel
theorem dX5_swingsTooFar_53 : decode cX5_swingsTooFar 53 = .ok (.iload_n 1, 1) := by decide +kernel
theorem dX5_swingsTooFar_54 : decode cX5_swingsTooFar 54 = .ok (.if_icmp .ge 86, 3) := by decide +kernel
theorem dX5_swingsTooFar_57 : decode cX5_swingsTooFar 57 = .ok (.iload 10, 2) := by decide +kernel
theorem dX5_swingsTooFar_59 : decode cX5_swingsTooFar 59 = .ok (.ifCond .ne 81, 3) := by decide +kernel
theorem dX5_swingsTooFar_62 : decode cX5_swingsTooFar 62 = .ok (.iload 8, 2) := by decide +kernel
theorem dX5_swingsTooFar_64 : decode cX5_swingsTooFar 64 = .ok (.iload_n 2, 1) := by decide +kernel
theorem dX5_swingsTooFar_65 : decode cX5_swingsTooFar 65 = .ok (.iload_n 3, 1) := by decide +kernel
theorem dX5_swingsTooFar_66 : decode cX5_swingsTooFar 66 = .ok (.iload 7, 2) := by decide +kernel
theorem dX5_swingsTooFar_68 : decode cX5_swingsTooFar 68 = .ok (.imul, 1) := by decide +kernel
theorem dX5_swingsTooFar_69 : decode cX5_swingsTooFar 69 = .ok (.isub, 1) := by decide +kernel
theorem dX5_swingsTooFar_70 : decode cX5_swingsTooFar 70 = .ok (.iload 4, 2) := by decide +kernel
theorem dX5_swingsTooFar_72 : decode cX5_swingsTooFar 72 = .ok (.iload 8, 2) := by decide +kernel
theorem dX5_swingsTooFar_74 : decode cX5_swingsTooFar 74 = .ok (.imul, 1) := by decide +kernel
theorem dX5_swingsTooFar_75 : decode cX5_swingsTooFar 75 = .ok (.isub, 1) := by decide +kernel
theorem dX5_swingsTooFar_76 : decode cX5_swingsTooFar 76 = .ok (.iload 5, 2) := by decide +kernel
theorem dX5_swingsTooFar_78 : decode cX5_swingsTooFar 78 = .ok (.idiv, 1) := by decide +kernel
theorem dX5_swingsTooFar_79 : decode cX5_swingsTooFar 79 = .ok (.iadd, 1) := by decide +kernel
theorem dX5_swingsTooFar_80 : decode cX5_swingsTooFar 80 = .ok (.istore 8, 2) := by decide +kernel
theorem dX5_swingsTooFar_82 : decode cX5_swingsTooFar 82 = .ok (.iload 7, 2) := by decide +kernel
theorem dX5_swingsTooFar_84 : decode cX5_swingsTooFar 84 = .ok (.iload 8, 2) := by decide +kernel
theorem dX5_swingsTooFar_86 : decode cX5_swingsTooFar 86 = .ok (.iadd, 1) := by decide +kernel
theorem dX5_swingsTooFar_87 : decode cX5_swingsTooFar 87 = .ok (.istore 7, 2) := by decide +kernel
theorem dX5_swingsTooFar_89 : decode cX5_swingsTooFar 89 = .ok (.iinc 11 1, 3) := by decide +kernel
theorem dX5_swingsTooFar_92 : decode cX5_swingsTooFar 92 = .ok (.iload 7, 2) := by decide +kernel
theorem dX5_swingsTooFar_94 : decode cX5_swingsTooFar 94 = .ok (.ifCond .ge 9, 3) := by decide +kernel
theorem dX5_swingsTooFar_97 : decode cX5_swingsTooFar 97 = .ok (.iload 7, 2) := by decide +kernel
theorem dX5_swingsTooFar_99 : decode cX5_swingsTooFar 99 = .ok (.ineg, 1) := by decide +kernel
theorem dX5_swingsTooFar_100 : decode cX5_swingsTooFar 100 = .ok (.goto 5, 3) := by decide +kernel
theorem dX5_swingsTooFar_103 : decode cX5_swingsTooFar 103 = .ok (.iload 7, 2) := by decide +kernel
theorem dX5_swingsTooFar_105 : decode cX5_swingsTooFar 105 = .ok (.istore 12, 2) := by decide +kernel
theorem dX5_swingsTooFar_107 : decode cX5_swingsTooFar 107 = .ok (.iload 12, 2) := by decide +kernel
theorem dX5_swingsTooFar_109 : decode cX5_swingsTooFar 109 = .ok (.iload 9, 2) := by decide +kernel
theorem dX5_swingsTooFar_111 : decode cX5_swingsTooFar 111 = .ok (.if_icmp .le 8, 3) := by decide +kernel
theorem dX5_swingsTooFar_114 : decode cX5_swingsTooFar 114 = .ok (.iload 12, 2) := by decide +kernel
theorem dX5_swingsTooFar_116 : decode cX5_swingsTooFar 116 = .ok (.goto 5, 3) := by decide +kernel
theorem dX5_swingsTooFar_119 : decode cX5_swingsTooFar 119 = .ok (.iload 9, 2) := by decide +kernel
theorem dX5_swingsTooFar_121 : decode cX5_swingsTooFar 121 = .ok (.istore 9, 2) := by decide +kernel
theorem dX5_swingsTooFar_123 : decode cX5_swingsTooFar 123 = .ok (.iload 12, 2) := by decide +kernel
theorem dX5_swingsTooFar_125 : decode cX5_swingsTooFar 125 = .ok (.iload 6, 2) := by decide +kernel
theorem dX5_swingsTooFar_127 : decode cX5_swingsTooFar 127 = .ok (.if_icmp .le 7, 3) := by decide +kernel
theorem dX5_swingsTooFar_130 : decode cX5_swingsTooFar 130 = .ok (.iconst 1, 1) := by decide +kernel
theorem dX5_swingsTooFar_131 : decode cX5_swingsTooFar 131 = .ok (.goto 4, 3) := by decide +kernel
theorem dX5_swingsTooFar_134 : decode cX5_swingsTooFar 134 = .ok (.iconst 0, 1) := by decide +kernel
theorem dX5_swingsTooFar_135 : decode cX5_swingsTooFar 135 = .ok (.istore 10, 2) := by decide +kernel
theorem dX5_swingsTooFar_137 : decode cX5_swingsTooFar 137 = .ok (.goto (-86), 3) := by decide +kernel
theorem dX5_swingsTooFar_140 : decode cX5_swingsTooFar 140 = .ok (.aload_n 0, 1) := by decide +kernel
theorem dX5_swingsTooFar_141 : decode cX5_swingsTooFar 141 = .ok (.iload 7, 2) := by decide +kernel
theorem dX5_swingsTooFar_143 : decode cX5_swingsTooFar 143 = .ok (.putfield 131, 3) := by decide +kernel
theorem dX5_swingsTooFar_146 : decode cX5_swingsTooFar 146 = .ok (.aload_n 0, 1) := by decide +kernel
theorem dX5_swingsTooFar_147 : decode cX5_swingsTooFar 147 = .ok (.iload 8, 2) := by decide +kernel
theorem dX5_swingsTooFar_149 : decode cX5_swingsTooFar 149 = .ok (.putfield 134, 3) := by decide +kernel
theorem dX5_swingsTooFar_152 : decode cX5_swingsTooFar 152 = .ok (.aload_n 0, 1) := by decide +kernel
theorem dX5_swingsTooFar_153 : decode cX5_swingsTooFar 153 = .ok (.iload 9, 2) := by decide +kernel
theorem dX5_swingsTooFar_155 : decode cX5_swingsTooFar 155 = .ok (.putfield 143, 3) := by decide +kernel
theorem dX5_swingsTooFar_158 : decode cX5_swingsTooFar 158 = .ok (.aload_n 0, 1) := by decide +kernel
theorem dX5_swingsTooFar_159 : decode cX5_swingsTooFar 159 = .ok (.dup, 1) := by decide +kernel
theorem dX5_swingsTooFar_160 : decode cX5_swingsTooFar 160 = .ok (.getfield 137, 3) := by decide +kernel
theorem dX5_swingsTooFar_163 : decode cX5_swingsTooFar 163 = .ok (.iload 11, 2) := by decide +kernel
theorem dX5_swingsTooFar_165 : decode cX5_swingsTooFar 165 = .ok (.iadd, 1) := by decide +kernel
theorem dX5_swingsTooFar_166 : decode cX5_swingsTooFar 166 = .ok (.putfield 137, 3) := by decide +kernel
theorem dX5_swingsTooFar_169 : decode cX5_swingsTooFar 169 = .ok (.iload 10, 2) := by decide +kernel
theorem dX5_swingsTooFar_171 : decode cX5_swingsTooFar 171 = .ok (.ireturn, 1) := by decide +kernel
set_option maxHeartbeats 4000000 in
set_option maxRecDepth 100000 in
theorem S_X5_swingsTooFar (l : Launch) (D : va_G) (K : Nat → ClassId) (a : Nat → Nat) (G : gS) (p0 : Int32) (s0 : Int) (p1 : Int32) (s1 : Int) (p2 : Int32) (s2 : Int) (p3 : Int32) (s3 : Int) (e0 : p0.toInt = s0) (e1 : p1.toInt = s1) (e2 : p2.toInt = s2) (e3 : p3.toInt = s3) (hI : xI G) (sz : Nat) : Ki l yX5_swingsTooFar wsX5_swingsTooFar 1 40 0 0 D [.ref (a 6), .int p0, .int p1, .int p2, .int p3] (xW K a G) (tK K) sz (fun (r : Int32) (G' : gS) => (xI G') ∧ (gu_un xcd [614, 615, 617, 619] G G') ∧ (0 ≤ r.toInt ∧ r.toInt ≤ 1)) (fun (G' : gS) => (xW K a G')) (fun _ => (tK K)) := by
  unfold Ki
  refine g_ofW (cc := cX5_swingsTooFar) (lv := [(0, .ref (a 6)), (1, .int p0), (2, .int p1), (3, .int p2), (4, .int p3)]) (by decide) rfl (Nat.le_of_ble_eq_true rfl) rfl ?_
  intro p e s m args below meth c A Q hA hQ F hr hnm
  have hts := F.2.2.2.2.1
  have w_0 : (Cond.fieldLink RX5 131 "QuietCut$Lathe" "x" "I").before args s = true := hts _ (List.mem_of_getElem? (i := 7) rfl)
  have i_X5 : ∀ w ∈ u_ws RX5 TX5 20, w ∈ wsX5_swingsTooFar := fun _ h => List.mem_cons_of_mem _ (List.mem_append_left _ (List.mem_append_right _ h))
  have w_1 : (Cond.fieldLink RX5 134 "QuietCut$Lathe" "v" "I").before args s = true := hts _ (List.mem_of_getElem? (i := 8) rfl)
  have w_2 : (Cond.fieldLink RX5 143 "QuietCut$Lathe" "farthest" "I").before args s = true := hts _ (List.mem_of_getElem? (i := 9) rfl)
  have w_3 : (Cond.fieldLink RX5 137 "QuietCut$Lathe" "time" "I").before args s = true := hts _ (List.mem_of_getElem? (i := 10) rfl)
  have w_4 : (Cond.fieldLink RX5 29 "QuietCut$Lathe" "shop" "LQuietCut$Shop;").before args s = true := hts _ (List.mem_of_getElem? (i := 1) rfl)
  have w_5 : (Cond.fieldLink RX5 56 "QuietCut$Shop" "numbers" "[I").before args s = true := hts _ (List.mem_of_getElem? (i := 2) rfl)
  have i_X7 : ∀ w ∈ u_ws RX7 TX7 4, w ∈ wsX5_swingsTooFar := fun _ h => List.mem_cons_of_mem _ (List.mem_append_right _ h)
  have w_6 : (Cond.methodLink RX5 146 Lib.Math.max.name).before args s = true := hts _ (List.mem_of_getElem? (i := 3) rfl)
  have w_7 : (Cond.static Lib.Math.max.name).before args s = true := hts _ (List.mem_of_getElem? (i := 4) rfl)
  have w_8 : (Cond.initialized "java/lang/Math").before args s = true := hts _ (List.mem_of_getElem? (i := 5) rfl)
  have w_9 : (Cond.code Lib.Math.max.name Lib.Math.max.code 2 (some .int)).before args s = true := hts _ (List.mem_of_getElem? (i := 6) rfl)
  have rg0 : -2147483648 ≤ s0 ∧ s0 ≤ 2147483647 := e0 ▸ ti_rng p0
  have rg1 : -2147483648 ≤ s1 ∧ s1 ≤ 2147483647 := e1 ▸ ti_rng p1
  have rg2 : -2147483648 ≤ s2 ∧ s2 ≤ 2147483647 := e2 ▸ ti_rng p2
  have rg3 : -2147483648 ≤ s3 ∧ s3 ≤ 2147483647 := e3 ▸ ti_rng p3
  have J_140 : ∀  (x140_7 : Int32) (x140_8 : Int32) (x140_9 : Int32) (x140_10 : Int32) (x140_11 : Int32), (0 ≤ x140_10.toInt ∧ x140_10.toInt ≤ 1) → (0 ≤ x140_11.toInt ∧ x140_11.toInt ≤ 2147483647) → gG p l e (gR 1 0 0 40) s m args below meth c D A 13 Q 0 0 (xW K a G) (tK K) [(0, .ref (a 6)), (7, .int x140_7), (8, .int x140_8), (9, .int x140_9), (10, .int x140_10), (11, .int x140_11)] 140 [] := by
    intro x140_7 x140_8 x140_9 x140_10 x140_11 h140_10 h140_11
    refine g_aload_n F 0 dX5_swingsTooFar_140 rfl rfl ?_
    refine g_iload F 1 dX5_swingsTooFar_141 rfl ?_
    refine xp_6_13 F i_X5 w_0 dX5_swingsTooFar_143 ?_
    refine g_aload_n F 0 dX5_swingsTooFar_146 rfl rfl ?_
    refine g_iload F 2 dX5_swingsTooFar_147 rfl ?_
    refine xp_6_14 F i_X5 w_1 dX5_swingsTooFar_149 ?_
    refine g_aload_n F 0 dX5_swingsTooFar_152 rfl rfl ?_
    refine g_iload F 3 dX5_swingsTooFar_153 rfl ?_
    refine xp_6_18 F i_X5 w_2 dX5_swingsTooFar_155 ?_
    refine g_aload_n F 0 dX5_swingsTooFar_158 rfl rfl ?_
    refine g_dup F dX5_swingsTooFar_159 rfl ?_
    refine xg_6_16 F i_X5 w_3 dX5_swingsTooFar_160 (G 6 16) (rfl) ?_
    refine g_iload F 5 dX5_swingsTooFar_163 rfl ?_
    refine u0_iadd F dX5_swingsTooFar_165 (fun y1 => ?_)
    refine xp_6_16 F i_X5 w_3 dX5_swingsTooFar_166 ?_
    refine g_iload F 4 dX5_swingsTooFar_169 rfl ?_
    exact u_zret F hA hQ hr (ti_nar rfl (by omega) (by omega)) (gu_up (gu_up (gu_up (gu_up G 6 13 x140_7) 6 14 x140_8) 6 18 x140_9) 6 16 y1) (⟨(gu_I.up (j := 6) (k := 16) (v := y1) (gu_I.up (j := 6) (k := 18) (v := x140_9) (gu_I.up (j := 6) (k := 14) (v := x140_8) (gu_I.up (j := 6) (k := 13) (v := x140_7) hI (ti_rng _).1 (ti_rng _).2) (ti_rng _).1 (ti_rng _).2) (ti_rng _).1 (ti_rng _).2) (ti_rng _).1 (ti_rng _).2), (gu_un.up (j := 6) (k := 16) (v := y1) (gu_un.up (j := 6) (k := 18) (v := x140_9) (gu_un.up (j := 6) (k := 14) (v := x140_8) (gu_un.up (j := 6) (k := 13) (v := x140_7) gu_un.rf (show (614 : Nat) ∈ ([614, 615, 617, 619] : List Nat) by decide)) (show (615 : Nat) ∈ ([614, 615, 617, 619] : List Nat) by decide)) (show (619 : Nat) ∈ ([614, 615, 617, 619] : List Nat) by decide)) (show (617 : Nat) ∈ ([614, 615, 617, 619] : List Nat) by decide)), (by have h9 := ti_rng x140_10; omega)⟩) rfl rfl dX5_swingsTooFar_171
  have J_51 : ∀ (fuel : Nat) (x51_5 : Int32) (x51_7 : Int32) (x51_8 : Int32) (x51_9 : Int32) (x51_10 : Int32) (x51_11 : Int32), (2147483647 - x51_11.toInt).toNat < fuel → (1 ≤ x51_5.toInt ∧ x51_5.toInt ≤ 99) → (0 ≤ x51_10.toInt ∧ x51_10.toInt ≤ 1) → (0 ≤ x51_11.toInt ∧ x51_11.toInt ≤ 2147483647) → gG p l e (gR 1 0 0 40) s m args below meth c D A 13 Q 0 0 (xW K a G) (tK K) [(0, .ref (a 6)), (1, .int p0), (2, .int p1), (3, .int p2), (4, .int p3), (5, .int x51_5), (6, .int (G 18 7)), (7, .int x51_7), (8, .int x51_8), (9, .int x51_9), (10, .int x51_10), (11, .int x51_11)] 51 [] := by
    intro fuel
    induction fuel with
    | zero => intro x51_5 x51_7 x51_8 x51_9 x51_10 x51_11 hm; exact absurd hm (Nat.not_lt_zero _)
    | succ fuel_51 ih_51 =>
      intro x51_5 x51_7 x51_8 x51_9 x51_10 x51_11 hm_51 h51_5 h51_10 h51_11
      have J_135 : ∀  (x135_7 : Int32) (x135_8 : Int32) (x135_9 : Int32) (x135_11 : Int32) (z135_0 : Int32), (1 ≤ s0 ∧ s0 ≤ 2147483647) → (1 ≤ x135_11.toInt ∧ x135_11.toInt ≤ 2147483647) → (x135_11.toInt = x51_11.toInt + 1) → (0 ≤ z135_0.toInt ∧ z135_0.toInt ≤ 1) → gG p l e (gR 1 0 0 40) s m args below meth c D A 13 Q 0 0 (xW K a G) (tK K) [(0, .ref (a 6)), (1, .int p0), (2, .int p1), (3, .int p2), (4, .int p3), (5, .int x51_5), (6, .int (G 18 7)), (7, .int x135_7), (8, .int x135_8), (9, .int x135_9), (11, .int x135_11)] 135 [.int z135_0] := by
        intro x135_7 x135_8 x135_9 x135_11 z135_0 k135_1 h135_11 l135_11 g135_0
        refine g_istore F [(10, .int z135_0), (0, .ref (a 6)), (1, .int p0), (2, .int p1), (3, .int p2), (4, .int p3), (5, .int x51_5), (6, .int (G 18 7)), (7, .int x135_7), (8, .int x135_8), (9, .int x135_9), (11, .int x135_11)] dX5_swingsTooFar_135 (by decide) rfl ?_
        refine g_goto F 51 dX5_swingsTooFar_137 (by decide) ?_
        refine g_locals [(0, .ref (a 6)), (1, .int p0), (2, .int p1), (3, .int p2), (4, .int p3), (5, .int x51_5), (6, .int (G 18 7)), (7, .int x135_7), (8, .int x135_8), (9, .int x135_9), (10, .int z135_0), (11, .int x135_11)] [1, 2, 3, 4, 5, 6, 7, 8, 9, 10, 0, 11] rfl ?_
        exact ih_51 x51_5 x135_7 x135_8 x135_9 z135_0 x135_11 (by omega) (by have h9 := ti_rng x51_5; omega) (by have h9 := ti_rng z135_0; omega) (by have h9 := ti_rng x135_11; omega)
      have J_121 : ∀  (x121_7 : Int32) (x121_8 : Int32) (x121_11 : Int32) (x121_12 : Int32) (z121_0 : Int32), (1 ≤ s0 ∧ s0 ≤ 2147483647) → (1 ≤ x121_11.toInt ∧ x121_11.toInt ≤ 2147483647) → (x121_11.toInt = x51_11.toInt + 1) → gG p l e (gR 1 0 0 40) s m args below meth c D A 13 Q 0 0 (xW K a G) (tK K) [(0, .ref (a 6)), (1, .int p0), (2, .int p1), (3, .int p2), (4, .int p3), (5, .int x51_5), (6, .int (G 18 7)), (7, .int x121_7), (8, .int x121_8), (11, .int x121_11), (12, .int x121_12)] 121 [.int z121_0] := by
        intro x121_7 x121_8 x121_11 x121_12 z121_0 k121_1 h121_11 l121_11
        refine g_istore F [(9, .int z121_0), (0, .ref (a 6)), (1, .int p0), (2, .int p1), (3, .int p2), (4, .int p3), (5, .int x51_5), (6, .int (G 18 7)), (7, .int x121_7), (8, .int x121_8), (11, .int x121_11), (12, .int x121_12)] dX5_swingsTooFar_121 (by decide) rfl ?_
        refine g_iload F 11 dX5_swingsTooFar_123 rfl ?_
        refine g_iload F 7 dX5_swingsTooFar_125 rfl ?_
        have b2 : (1 : Int) ≤ (G 18 7).toInt ∧ (G 18 7).toInt ≤ 9999 := hI 18 7
        have b3 := ti_rng x121_12
        refine v_icmp_le F 134 dX5_swingsTooFar_127 (by decide) x121_12.toInt (G 18 7).toInt rfl rfl (fun c4 => ?_) (fun c4 => ?_)
        · refine g_iconst F 0 dX5_swingsTooFar_134 (by decide) ?_
          refine g_locals [(0, .ref (a 6)), (1, .int p0), (2, .int p1), (3, .int p2), (4, .int p3), (5, .int x51_5), (6, .int (G 18 7)), (7, .int x121_7), (8, .int x121_8), (9, .int z121_0), (11, .int x121_11)] [1, 2, 3, 4, 5, 6, 7, 8, 9, 0, 10] rfl ?_
          exact J_135 x121_7 x121_8 z121_0 x121_11 0 (by have h9 := ti_rng p0; omega) (by have h9 := ti_rng x121_11; omega) (by omega) (by decide)
        · refine g_iconst F 1 dX5_swingsTooFar_130 (by decide) ?_
          refine g_goto F 135 dX5_swingsTooFar_131 (by decide) ?_
          refine g_locals [(0, .ref (a 6)), (1, .int p0), (2, .int p1), (3, .int p2), (4, .int p3), (5, .int x51_5), (6, .int (G 18 7)), (7, .int x121_7), (8, .int x121_8), (9, .int z121_0), (11, .int x121_11)] [1, 2, 3, 4, 5, 6, 7, 8, 9, 0, 10] rfl ?_
          exact J_135 x121_7 x121_8 z121_0 x121_11 1 (by have h9 := ti_rng p0; omega) (by have h9 := ti_rng x121_11; omega) (by omega) (by decide)
      have J_105 : ∀  (x105_7 : Int32) (x105_8 : Int32) (x105_11 : Int32) (z105_0 : Int32), (1 ≤ s0 ∧ s0 ≤ 2147483647) → (1 ≤ x105_11.toInt ∧ x105_11.toInt ≤ 2147483647) → (x105_11.toInt = x51_11.toInt + 1) → gG p l e (gR 1 0 0 40) s m args below meth c D A 13 Q 0 0 (xW K a G) (tK K) [(0, .ref (a 6)), (1, .int p0), (2, .int p1), (3, .int p2), (4, .int p3), (5, .int x51_5), (6, .int (G 18 7)), (7, .int x105_7), (8, .int x105_8), (9, .int x51_9), (11, .int x105_11)] 105 [.int z105_0] := by
        intro x105_7 x105_8 x105_11 z105_0 k105_1 h105_11 l105_11
        refine g_istore F [(12, .int z105_0), (0, .ref (a 6)), (1, .int p0), (2, .int p1), (3, .int p2), (4, .int p3), (5, .int x51_5), (6, .int (G 18 7)), (7, .int x105_7), (8, .int x105_8), (9, .int x51_9), (11, .int x105_11)] dX5_swingsTooFar_105 (by decide) rfl ?_
        refine g_iload F 0 dX5_swingsTooFar_107 rfl ?_
        refine g_iload F 10 dX5_swingsTooFar_109 rfl ?_
        have b5 := ti_rng z105_0
        have b6 := ti_rng x51_9
        refine v_icmp_le F 119 dX5_swingsTooFar_111 (by decide) z105_0.toInt x51_9.toInt rfl rfl (fun c7 => ?_) (fun c7 => ?_)
        · refine g_iload F 10 dX5_swingsTooFar_119 rfl ?_
          refine g_locals [(0, .ref (a 6)), (1, .int p0), (2, .int p1), (3, .int p2), (4, .int p3), (5, .int x51_5), (6, .int (G 18 7)), (7, .int x105_7), (8, .int x105_8), (11, .int x105_11), (12, .int z105_0)] [1, 2, 3, 4, 5, 6, 7, 8, 9, 11, 0] rfl ?_
          exact J_121 x105_7 x105_8 x105_11 z105_0 x51_9 (by have h9 := ti_rng p0; omega) (by have h9 := ti_rng x105_11; omega) (by omega)
        · refine g_iload F 0 dX5_swingsTooFar_114 rfl ?_
          refine g_goto F 121 dX5_swingsTooFar_116 (by decide) ?_
          refine g_locals [(0, .ref (a 6)), (1, .int p0), (2, .int p1), (3, .int p2), (4, .int p3), (5, .int x51_5), (6, .int (G 18 7)), (7, .int x105_7), (8, .int x105_8), (11, .int x105_11), (12, .int z105_0)] [1, 2, 3, 4, 5, 6, 7, 8, 9, 11, 0] rfl ?_
          exact J_121 x105_7 x105_8 x105_11 z105_0 z105_0 (by have h9 := ti_rng p0; omega) (by have h9 := ti_rng x105_11; omega) (by omega)
      refine g_iload F 11 dX5_swingsTooFar_51 rfl ?_
      refine g_iload_n F 1 dX5_swingsTooFar_53 rfl rfl ?_
      have b8 := ti_rng x51_11
      refine v_icmp_ge F 140 dX5_swingsTooFar_54 (by decide) x51_11.toInt s0 rfl e0 (fun c9 => ?_) (fun c9 => ?_)
      · refine g_locals [(0, .ref (a 6)), (7, .int x51_7), (8, .int x51_8), (9, .int x51_9), (10, .int x51_10), (11, .int x51_11)] [0, 7, 8, 9, 10, 11] rfl ?_
        exact J_140 x51_7 x51_8 x51_9 x51_10 x51_11 (by have h9 := ti_rng x51_10; omega) (by have h9 := ti_rng x51_11; omega)
      · refine g_iload F 10 dX5_swingsTooFar_57 rfl ?_
        refine v_if_ne F 140 dX5_swingsTooFar_59 (by decide) x51_10.toInt rfl (fun c10 => ?_) (fun c10 => ?_)
        · refine g_locals [(0, .ref (a 6)), (7, .int x51_7), (8, .int x51_8), (9, .int x51_9), (10, .int x51_10), (11, .int x51_11)] [0, 7, 8, 9, 10, 11] rfl ?_
          exact J_140 x51_7 x51_8 x51_9 x51_10 x51_11 (by have h9 := ti_rng x51_10; omega) (by have h9 := ti_rng x51_11; omega)
        · refine g_iload F 8 dX5_swingsTooFar_62 rfl ?_
          refine g_iload_n F 2 dX5_swingsTooFar_64 rfl rfl ?_
          refine g_iload_n F 3 dX5_swingsTooFar_65 rfl rfl ?_
          refine g_iload F 7 dX5_swingsTooFar_66 rfl ?_
          refine u0_imul F dX5_swingsTooFar_68 (fun y11 => ?_)
          refine u0_isub F dX5_swingsTooFar_69 (fun y12 => ?_)
          refine g_iload F 4 dX5_swingsTooFar_70 rfl ?_
          refine g_iload F 8 dX5_swingsTooFar_72 rfl ?_
          refine u0_imul F dX5_swingsTooFar_74 (fun y13 => ?_)
          refine u0_isub F dX5_swingsTooFar_75 (fun y14 => ?_)
          refine g_iload F 5 dX5_swingsTooFar_76 rfl ?_
          refine u0_idiv F dX5_swingsTooFar_78 (ti_ne0 rfl (by omega)) (fun y15 => ?_)
          refine u0_iadd F dX5_swingsTooFar_79 (fun y16 => ?_)
          refine g_istore F [(8, .int y16), (0, .ref (a 6)), (1, .int p0), (2, .int p1), (3, .int p2), (4, .int p3), (5, .int x51_5), (6, .int (G 18 7)), (7, .int x51_7), (9, .int x51_9), (10, .int x51_10), (11, .int x51_11)] dX5_swingsTooFar_80 (by decide) rfl ?_
          refine g_iload F 8 dX5_swingsTooFar_82 rfl ?_
          refine g_iload F 0 dX5_swingsTooFar_84 rfl ?_
          refine u0_iadd F dX5_swingsTooFar_86 (fun y17 => ?_)
          refine g_istore F [(7, .int y17), (8, .int y16), (0, .ref (a 6)), (1, .int p0), (2, .int p1), (3, .int p2), (4, .int p3), (5, .int x51_5), (6, .int (G 18 7)), (9, .int x51_9), (10, .int x51_10), (11, .int x51_11)] dX5_swingsTooFar_87 (by decide) rfl ?_
          refine u_iinc F (fun v_ => [(11, .int v_), (7, .int y17), (8, .int y16), (0, .ref (a 6)), (1, .int p0), (2, .int p1), (3, .int p2), (4, .int p3), (5, .int x51_5), (6, .int (G 18 7)), (9, .int x51_9), (10, .int x51_10)]) dX5_swingsTooFar_89 (j := 11) rfl x51_11.toInt 1 rfl rfl (by omega) (by omega) (by decide) (fun _ => rfl) (fun y18 ey18 => ?_)
          refine g_iload F 1 dX5_swingsTooFar_92 rfl ?_
          refine v_if_ge F 103 dX5_swingsTooFar_94 (by decide) y17.toInt rfl (fun c19 => ?_) (fun c19 => ?_)
          · refine g_iload F 1 dX5_swingsTooFar_103 rfl ?_
            refine g_locals [(0, .ref (a 6)), (1, .int p0), (2, .int p1), (3, .int p2), (4, .int p3), (5, .int x51_5), (6, .int (G 18 7)), (7, .int y17), (8, .int y16), (9, .int x51_9), (11, .int y18)] [3, 4, 5, 6, 7, 8, 9, 1, 2, 10, 0] rfl ?_
            exact J_105 y17 y16 y18 y17 (by have h9 := ti_rng p0; omega) (by have h9 := ti_rng y18; omega) (by omega)
          · refine g_iload F 1 dX5_swingsTooFar_97 rfl ?_
            refine u0_ineg F dX5_swingsTooFar_99 (fun y20 => ?_)
            refine g_goto F 105 dX5_swingsTooFar_100 (by decide) ?_
            refine g_locals [(0, .ref (a 6)), (1, .int p0), (2, .int p1), (3, .int p2), (4, .int p3), (5, .int x51_5), (6, .int (G 18 7)), (7, .int y17), (8, .int y16), (9, .int x51_9), (11, .int y18)] [3, 4, 5, 6, 7, 8, 9, 1, 2, 10, 0] rfl ?_
            exact J_105 y17 y16 y18 y20 (by have h9 := ti_rng p0; omega) (by have h9 := ti_rng y18; omega) (by omega)
  refine g_iconst F 1 dX5_swingsTooFar_0 (by decide) ?_
  refine g_aload_n F 0 dX5_swingsTooFar_1 rfl rfl ?_
  refine xg_6_0 F i_X5 w_4 dX5_swingsTooFar_2 ?_
  refine xg_2_0 F i_X7 w_5 dX5_swingsTooFar_5 ?_
  refine g_iconst F 2 dX5_swingsTooFar_8 (by decide) ?_
  refine u1_iald F 18 0 xc_18 rfl 2 rfl (by decide) (by decide) dX5_swingsTooFar_9 (G 18 2) (rfl) ?_
  have b22 : (1 : Int) ≤ (G 18 2).toInt ∧ (G 18 2).toInt ≤ 99 := hI 18 2
  refine u_mmax F w_6 w_7 w_8 w_9 (Nat.le_of_ble_eq_true rfl) (Nat.le_of_ble_eq_true rfl) (Nat.le_of_ble_eq_true rfl) (Nat.le_of_ble_eq_true rfl) dX5_swingsTooFar_10 1 (G 18 2).toInt rfl rfl (fun y21 ey21 => ?_)
  refine g_istore F [(5, .int y21), (0, .ref (a 6)), (1, .int p0), (2, .int p1), (3, .int p2), (4, .int p3)] dX5_swingsTooFar_13 (by decide) rfl ?_
  refine g_aload_n F 1 dX5_swingsTooFar_15 rfl rfl ?_
  refine xg_6_0 F i_X5 w_4 dX5_swingsTooFar_16 ?_
  refine xg_2_0 F i_X7 w_5 dX5_swingsTooFar_19 ?_
  refine g_bipush F 7 dX5_swingsTooFar_22 (by decide) ?_
  refine u1_iald F 18 0 xc_18 rfl 7 rfl (by decide) (by decide) dX5_swingsTooFar_24 (G 18 7) (rfl) ?_
  refine g_istore F [(6, .int (G 18 7)), (5, .int y21), (0, .ref (a 6)), (1, .int p0), (2, .int p1), (3, .int p2), (4, .int p3)] dX5_swingsTooFar_25 (by decide) rfl ?_
  refine g_aload_n F 2 dX5_swingsTooFar_27 rfl rfl ?_
  refine xg_6_13 F i_X5 w_0 dX5_swingsTooFar_28 (G 6 13) (rfl) ?_
  refine g_istore F [(7, .int (G 6 13)), (6, .int (G 18 7)), (5, .int y21), (0, .ref (a 6)), (1, .int p0), (2, .int p1), (3, .int p2), (4, .int p3)] dX5_swingsTooFar_31 (by decide) rfl ?_
  refine g_aload_n F 3 dX5_swingsTooFar_33 rfl rfl ?_
  refine xg_6_14 F i_X5 w_1 dX5_swingsTooFar_34 (G 6 14) (rfl) ?_
  refine g_istore F [(8, .int (G 6 14)), (7, .int (G 6 13)), (6, .int (G 18 7)), (5, .int y21), (0, .ref (a 6)), (1, .int p0), (2, .int p1), (3, .int p2), (4, .int p3)] dX5_swingsTooFar_37 (by decide) rfl ?_
  refine g_aload_n F 4 dX5_swingsTooFar_39 rfl rfl ?_
  refine xg_6_18 F i_X5 w_2 dX5_swingsTooFar_40 (G 6 18) (rfl) ?_
  refine g_istore F [(9, .int (G 6 18)), (8, .int (G 6 14)), (7, .int (G 6 13)), (6, .int (G 18 7)), (5, .int y21), (0, .ref (a 6)), (1, .int p0), (2, .int p1), (3, .int p2), (4, .int p3)] dX5_swingsTooFar_43 (by decide) rfl ?_
  refine g_iconst F 0 dX5_swingsTooFar_45 (by decide) ?_
  refine g_istore F [(10, .int 0), (9, .int (G 6 18)), (8, .int (G 6 14)), (7, .int (G 6 13)), (6, .int (G 18 7)), (5, .int y21), (0, .ref (a 6)), (1, .int p0), (2, .int p1), (3, .int p2), (4, .int p3)] dX5_swingsTooFar_46 (by decide) rfl ?_
  refine g_iconst F 0 dX5_swingsTooFar_48 (by decide) ?_
  refine g_istore F [(11, .int 0), (10, .int 0), (9, .int (G 6 18)), (8, .int (G 6 14)), (7, .int (G 6 13)), (6, .int (G 18 7)), (5, .int y21), (0, .ref (a 6)), (1, .int p0), (2, .int p1), (3, .int p2), (4, .int p3)] dX5_swingsTooFar_49 (by decide) rfl ?_
  refine g_locals [(0, .ref (a 6)), (1, .int p0), (2, .int p1), (3, .int p2), (4, .int p3), (5, .int y21), (6, .int (G 18 7)), (7, .int (G 6 13)), (8, .int (G 6 14)), (9, .int (G 6 18)), (10, .int 0), (11, .int 0)] [7, 8, 9, 10, 11, 6, 5, 4, 3, 2, 1, 0] rfl ?_
  exact J_51 _ y21 (G 6 13) (G 6 14) (G 6 18) 0 0 (Nat.lt_succ_self _) (by have h9 := ti_rng y21; omega) (by decide) (by decide)

theorem dX5_storeHeights_0 : decode cX5_storeHeights 0 = .ok (.aload_n 0, 1) := by decide +kernel
theorem dX5_storeHeights_1 : decode cX5_storeHeights 1 = .ok (.getfield 29, 3) := by decide +kernel
theorem dX5_storeHeights_4 : decode cX5_storeHeights 4 = .ok (.getfield 56, 3) := by decide +kernel
theorem dX5_storeHeights_7 : decode cX5_storeHeights 7 = .ok (.iconst 0, 1) := by decide +kernel
theorem dX5_storeHeights_8 : decode cX5_storeHeights 8 = .ok (.iaload, 1) := by decide +kernel
theorem dX5_storeHeights_9 : decode cX5_storeHeights 9 = .ok (.istore_n 2, 1) := by decide +kernel
theorem dX5_storeHeights_10 : decode cX5_storeHeights 10 = .ok (.aload_n 0, 1) := by decide +kernel
theorem dX5_storeHeights_11 : decode cX5_storeHeights 11 = .ok (.getfield 33, 3) := by decide +kernel
theorem dX5_storeHeights_14 : decode cX5_storeHeights 14 = .ok (.iconst 0, 1) := by decide +kernel
theorem dX5_storeHeights_15 : decode cX5_storeHeights 15 = .ok (.invokestatic 59, 3) := by decide +kernel
theorem dX5_storeHeights_18 : decode cX5_storeHeights 18 = .ok (.istore_n 3, 1) := by decide +kernel
theorem dX5_storeHeights_19 : decode cX5_storeHeights 19 = .ok (.iconst 0, 1) := by decide +kernel
theorem dX5_storeHeights_20 : decode cX5_storeHeights 20 = .ok (.istore 4, 2) := by decide +kernel
theorem dX5_storeHeights_22 : decode cX5_storeHeights 22 = .ok (.iload 4, 2) := by decide +kernel
theorem dX5_storeHeights_24 : decode cX5_storeHeights 24 = .ok (.iload_n 2, 1) := by decide +kernel
theorem dX5_storeHeights_25 : decode cX5_storeHeights 25 = .ok (.if_icmp .ge 42, 3) := by decide +kernel
theorem dX5_storeHeights_28 : decode cX5_storeHeights 28 = .ok (.iload 4, 2) := by decide +kernel
theorem dX5_storeHeights_30 : decode cX5_storeHeights 30 = .ok (.bipush 16, 2) := by decide +kernel
theorem dX5_storeHeights_32 : decode cX5_storeHeights 32 = .ok (.if_icmp .ge 35, 3) := by decide +kernel
theorem dX5_storeHeights_35 : decode cX5_storeHeights 35 = .ok (.iload_n 3, 1) := by decide +kernel
theorem dX5_storeHeights_36 : decode cX5_storeHeights 36 = .ok (.ifCond .lt 25, 3) := by decide +kernel
theorem dX5_storeHeights_39 : decode cX5_storeHeights 39 = .ok (.iload_n 3, 1) := by decide +kernel
theorem dX5_storeHeights_40 : decode cX5_storeHeights 40 = .ok (.iload 4, 2) := by decide +kernel
theorem dX5_storeHeights_42 : decode cX5_storeHeights 42 = .ok (.iadd, 1) := by decide +kernel
theorem dX5_storeHeights_43 : decode cX5_storeHeights 43 = .ok (.aload_n 1, 1) := by decide +kernel
theorem dX5_storeHeights_44 : decode cX5_storeHeights 44 = .ok (.arraylength, 1) := by decide +kernel
theorem dX5_storeHeights_45 : decode cX5_storeHeights 45 = .ok (.if_icmp .ge 16, 3) := by decide +kernel
theorem dX5_storeHeights_48 : decode cX5_storeHeights 48 = .ok (.aload_n 1, 1) := by decide +kernel
theorem dX5_storeHeights_49 : decode cX5_storeHeights 49 = .ok (.iload_n 3, 1) := by decide +kernel
theorem dX5_storeHeights_50 : decode cX5_storeHeights 50 = .ok (.iload 4, 2) := by decide +kernel
theorem dX5_storeHeights_52 : decode cX5_storeHeights 52 = .ok (.iadd, 1) := by decide +kernel
theorem dX5_storeHeights_53 : decode cX5_storeHeights 53 = .ok (.aload_n 0, 1) := by decide +kernel
theorem dX5_storeHeights_54 : decode cX5_storeHeights 54 = .ok (.getfield 17, 3) := by decide +kernel
theorem dX5_storeHeights_57 : decode cX5_storeHeights 57 = .ok (.iload 4, 2) := by decide +kernel
theorem dX5_storeHeights_59 : decode cX5_storeHeights 59 = .ok (.iaload, 1) := by decide +kernel
theorem dX5_storeHeights_60 : decode cX5_storeHeights 60 = .ok (.iastore, 1) := by decide +kernel
theorem dX5_storeHeights_61 : decode cX5_storeHeights 61 = .ok (.iinc 4 1, 3) := by decide +kernel
theorem dX5_storeHeights_64 : decode cX5_storeHeights 64 = .ok (.goto (-42), 3) := by decide +kernel
theorem dX5_storeHeights_67 : decode cX5_storeHeights 67 = .ok (.return_, 1) := by decide +kernel
set_option maxRecDepth 20000 in
theorem ggX5_storeHeights_X6_placeOf : GoodIn wsX5_storeHeights wsX6_placeOf := goodIn_r _ [8] rfl (by decide +kernel)
set_option maxRecDepth 20000 in
theorem gX5_storeHeights_X6_placeOf : GoodIn wsX5_storeHeights (va_wsS RX5 59 yX6_placeOf wsX6_placeOf) := goodIn_app (goodIn_of _ (by decide +kernel)) ggX5_storeHeights_X6_placeOf
set_option maxHeartbeats 4000000 in
set_option maxRecDepth 100000 in
theorem S_X5_storeHeights_38 (l : Launch) (D : va_G) (K : Nat → ClassId) (a : Nat → Nat) (G : gS) (hrg : (0 ≤ (G 6 1).toInt ∧ (G 6 1).toInt ≤ 5)) (hI : xI G) (sz : Nat) : Kv l yX5_storeHeights wsX5_storeHeights 2 61 0 0 D [.ref (a 6), .ref (a 38)] (xW K a G) (tK K) sz (fun (G' : gS) => (xI G') ∧ (gu_un xcd [3800] G G')) (fun (G' : gS) => (xW K a G')) (fun _ => (tK K)) := by
  unfold Kv
  refine g_ofW (cc := cX5_storeHeights) (lv := [(0, .ref (a 6)), (1, .ref (a 38))]) (by decide) rfl (Nat.le_of_ble_eq_true rfl) rfl ?_
  intro p e s m args below meth c A Q hA hQ F hr hnm
  have hts := F.2.2.2.2.1
  have w_0 : (Cond.fieldLink RX5 17 "QuietCut$Lathe" "heights" "[I").before args s = true := hts _ (List.mem_of_getElem? (i := 4) rfl)
  have i_X5 : ∀ w ∈ u_ws RX5 TX5 20, w ∈ wsX5_storeHeights := fun _ h => List.mem_cons_of_mem _ (List.mem_append_left _ (List.mem_append_right _ h))
  have w_1 : (Cond.fieldLink RX5 29 "QuietCut$Lathe" "shop" "LQuietCut$Shop;").before args s = true := hts _ (List.mem_of_getElem? (i := 1) rfl)
  have w_2 : (Cond.fieldLink RX5 56 "QuietCut$Shop" "numbers" "[I").before args s = true := hts _ (List.mem_of_getElem? (i := 2) rfl)
  have i_X7 : ∀ w ∈ u_ws RX7 TX7 4, w ∈ wsX5_storeHeights := fun _ h => List.mem_cons_of_mem _ (List.mem_append_right _ h)
  have w_3 : (Cond.fieldLink RX5 33 "QuietCut$Lathe" "ring" "I").before args s = true := hts _ (List.mem_of_getElem? (i := 3) rfl)
  have J_22 : ∀ (fuel : Nat) (x22_3 : Int32) (x22_4 : Int32) (Gj22 : gS), (2147483647 - x22_4.toInt).toNat < fuel → (0 ≤ x22_3.toInt ∧ x22_3.toInt ≤ 95) → (0 ≤ x22_4.toInt ∧ x22_4.toInt ≤ 16) → (xI Gj22) → (gu_un xcd [3800] G Gj22) → gG p l e (gR 2 0 0 61) s m args below meth c D A 5 Q 0 0 (xW K a Gj22) (tK K) [(0, .ref (a 6)), (1, .ref (a 38)), (2, .int (G 18 0)), (3, .int x22_3), (4, .int x22_4)] 22 [] := by
    intro fuel
    induction fuel with
    | zero => intro x22_3 x22_4 Gj22 hm; exact absurd hm (Nat.not_lt_zero _)
    | succ fuel_22 ih_22 =>
      intro x22_3 x22_4 Gj22 hm_22 h22_3 h22_4 jI22 jU22
      have J_61 : ∀  (Gj61 : gS), (0 ≤ x22_4.toInt ∧ x22_4.toInt ≤ 15) → (xI Gj61) → (gu_un xcd [3800] Gj22 Gj61) → gG p l e (gR 2 0 0 61) s m args below meth c D A 5 Q 0 0 (xW K a Gj61) (tK K) [(0, .ref (a 6)), (1, .ref (a 38)), (2, .int (G 18 0)), (3, .int x22_3), (4, .int x22_4)] 61 [] := by
        intro Gj61 k61_4 jI61 jU61
        refine u_iinc F (fun v_ => [(4, .int v_), (0, .ref (a 6)), (1, .ref (a 38)), (2, .int (G 18 0)), (3, .int x22_3)]) dX5_storeHeights_61 (j := 4) rfl x22_4.toInt 1 rfl rfl (by omega) (by omega) (by decide) (fun _ => rfl) (fun y1 ey1 => ?_)
        refine g_goto F 22 dX5_storeHeights_64 (by decide) ?_
        refine g_locals [(0, .ref (a 6)), (1, .ref (a 38)), (2, .int (G 18 0)), (3, .int x22_3), (4, .int y1)] [1, 2, 3, 4, 0] rfl ?_
        exact ih_22 x22_3 y1 Gj61 (by omega) (by have h9 := ti_rng x22_3; omega) (by have h9 := ti_rng y1; omega) jI61 (gu_un.tr (gu_un.tr gu_un.rf (gu_un.su jU22 rfl)) (gu_un.su jU61 rfl))
      refine g_iload F 4 dX5_storeHeights_22 rfl ?_
      refine g_iload_n F 2 dX5_storeHeights_24 rfl rfl ?_
      have b2 : (4 : Int) ≤ (G 18 0).toInt ∧ (G 18 0).toInt ≤ 16 := hI 18 0
      refine v_icmp_ge F 67 dX5_storeHeights_25 (by decide) x22_4.toInt (G 18 0).toInt rfl rfl (fun c3 => ?_) (fun c3 => ?_)
      · exact u_vret F hA hQ hr Gj22 (⟨jI22, (gu_un.tr gu_un.rf (gu_un.su jU22 rfl))⟩) rfl rfl dX5_storeHeights_67
      · refine g_iload F 4 dX5_storeHeights_28 rfl ?_
        refine g_bipush F 16 dX5_storeHeights_30 (by decide) ?_
        refine v_icmp_ge F 67 dX5_storeHeights_32 (by decide) x22_4.toInt 16 rfl rfl (fun c4 => absurd c4 (by omega)) (fun c4 => ?_)
        refine g_iload_n F 3 dX5_storeHeights_35 rfl rfl ?_
        refine v_if_lt F 61 dX5_storeHeights_36 (by decide) x22_3.toInt rfl (fun c5 => absurd c5 (by omega)) (fun c5 => ?_)
        refine g_iload_n F 3 dX5_storeHeights_39 rfl rfl ?_
        refine g_iload F 4 dX5_storeHeights_40 rfl ?_
        refine u_iadd F dX5_storeHeights_42 x22_3.toInt x22_4.toInt rfl rfl (by omega) (by omega) (fun y6 ey6 => ?_)
        refine g_aload_n F 1 dX5_storeHeights_43 rfl rfl ?_
        refine g_alen F 38 0 xc_38 rfl 96 rfl dX5_storeHeights_44 ?_
        refine v_icmp_ge F 61 dX5_storeHeights_45 (by decide) y6.toInt 96 rfl rfl (fun c7 => ?_) (fun c7 => ?_)
        · exact J_61 Gj22 (by have h9 := ti_rng x22_4; omega) jI22 gu_un.rf
        · refine g_aload_n F 1 dX5_storeHeights_48 rfl rfl ?_
          refine g_iload_n F 3 dX5_storeHeights_49 rfl rfl ?_
          refine g_iload F 4 dX5_storeHeights_50 rfl ?_
          refine u_iadd F dX5_storeHeights_52 x22_3.toInt x22_4.toInt rfl rfl (by omega) (by omega) (fun y8 ey8 => ?_)
          refine g_aload_n F 0 dX5_storeHeights_53 rfl rfl ?_
          refine xg_6_8 F i_X5 w_0 dX5_storeHeights_54 ?_
          refine g_iload F 4 dX5_storeHeights_57 rfl ?_
          refine u_iald F 45 0 xc_45 rfl x22_4.toInt rfl (by omega) (by omega) dX5_storeHeights_59 (fun _ => True) (fun _ => trivial) (fun y9 by9 => ?_)
          refine u_iast F 38 0 xc_38 rfl y8.toInt rfl (by omega) (by omega) (xW K a (gu_up Gj22 38 (y8.toInt).toNat y9)) (xs_38 _) dX5_storeHeights_60 ?_
          exact J_61 (gu_up Gj22 38 (y8.toInt).toNat y9) (by have h9 := ti_rng x22_4; omega) (gu_I.up (j := 38) (k := (y8.toInt).toNat) (v := y9) jI22 (ti_rng _).1 (ti_rng _).2) (gu_un.up (j := 38) (k := (y8.toInt).toNat) (v := y9) gu_un.rf (show (3800 : Nat) ∈ ([3800] : List Nat) by decide))
  refine g_aload_n F 0 dX5_storeHeights_0 rfl rfl ?_
  refine xg_6_0 F i_X5 w_1 dX5_storeHeights_1 ?_
  refine xg_2_0 F i_X7 w_2 dX5_storeHeights_4 ?_
  refine g_iconst F 0 dX5_storeHeights_7 (by decide) ?_
  refine u1_iald F 18 0 xc_18 rfl 0 rfl (by decide) (by decide) dX5_storeHeights_8 (G 18 0) (rfl) ?_
  refine g_istore_n F [(2, .int (G 18 0)), (0, .ref (a 6)), (1, .ref (a 38))] dX5_storeHeights_9 rfl (by decide) rfl ?_
  refine g_aload_n F 1 dX5_storeHeights_10 rfl rfl ?_
  refine xg_6_1 F i_X5 w_3 dX5_storeHeights_11 (G 6 1) (rfl) ?_
  refine g_iconst F 0 dX5_storeHeights_14 (by decide) ?_
  refine u_call0 (k := 0) (n := 0) (As := [.int (G 6 1), .int 0]) (st := []) F (fun sz => S_X6_placeOf_b5_b15 l D (G 6 1) (G 6 1).toInt 0 0 rfl (by omega) rfl (by decide) sz) (va_cwS 2 hts gX5_storeHeights_X6_placeOf rfl rfl rfl (by decide +kernel) ⟨Nat.le_of_ble_eq_true rfl, Nat.le_of_ble_eq_true rfl⟩) rfl (Nat.le_of_ble_eq_true rfl) ⟨Nat.zero_le _, Nat.zero_le _⟩ dX5_storeHeights_15 (fun r10 _ hw11 => ?_)
  have rg13 := hw11.1
  have rg14 := hw11.2
  clear hw11
  refine g_istore_n F [(3, .int r10), (2, .int (G 18 0)), (0, .ref (a 6)), (1, .ref (a 38))] dX5_storeHeights_18 rfl (by decide) rfl ?_
  refine g_iconst F 0 dX5_storeHeights_19 (by decide) ?_
  refine g_istore F [(4, .int 0), (3, .int r10), (2, .int (G 18 0)), (0, .ref (a 6)), (1, .ref (a 38))] dX5_storeHeights_20 (by decide) rfl ?_
  refine g_locals [(0, .ref (a 6)), (1, .ref (a 38)), (2, .int (G 18 0)), (3, .int r10), (4, .int 0)] [3, 4, 2, 1, 0] rfl ?_
  exact J_22 _ r10 0 G (Nat.lt_succ_self _) (by have h9 := ti_rng r10; omega) (by decide) hI gu_un.rf


set_option maxHeartbeats 4000000 in
set_option maxRecDepth 100000 in
theorem S_X6_placeOf (l : Launch) (D : va_G)  (p0 : Int32) (s0 : Int) (p1 : Int32) (s1 : Int) (e0 : p0.toInt = s0) (e1 : p1.toInt = s1) (sz : Nat) : Ki l yX6_placeOf wsX6_placeOf 1 40 0 0 D [.int p0, .int p1] [] [] sz (fun (r : Int32) (_ : Unit) => True) (fun (_ : Unit) => []) (fun _ => []) := by
  unfold Ki
  refine g_ofW (cc := cX6_placeOf) (lv := [(0, .int p0), (1, .int p1)]) (by decide) rfl (Nat.le_of_ble_eq_true rfl) rfl ?_
  intro p e s m args below meth c A Q hA hQ F hr hnm
  have hts := F.2.2.2.2.1
  have rg0 : -2147483648 ≤ s0 ∧ s0 ≤ 2147483647 := e0 ▸ ti_rng p0
  have rg1 : -2147483648 ≤ s1 ∧ s1 ≤ 2147483647 := e1 ▸ ti_rng p1
  refine g_iload_n F 0 dX6_placeOf_0 rfl rfl ?_
  refine g_bipush F 16 dX6_placeOf_1 (by decide) ?_
  refine u0_imul F dX6_placeOf_3 (fun y1 => ?_)
  refine g_iload_n F 1 dX6_placeOf_4 rfl rfl ?_
  refine u0_iadd F dX6_placeOf_5 (fun y2 => ?_)
  exact u_iret F hA hQ hr () (trivial) rfl rfl dX6_placeOf_6

theorem dX5_gapIn_0 : decode cX5_gapIn 0 = .ok (.aload_n 0, 1) := by decide +kernel
theorem dX5_gapIn_1 : decode cX5_gapIn 1 = .ok (.getfield 29, 3) := by decide +kernel
theorem dX5_gapIn_4 : decode cX5_gapIn 4 = .ok (.getfield 56, 3) := by decide +kernel
theorem dX5_gapIn_7 : decode cX5_gapIn 7 = .ok (.iconst 0, 1) := by decide +kernel
theorem dX5_gapIn_8 : decode cX5_gapIn 8 = .ok (.iaload, 1) := by decide +kernel
theorem dX5_gapIn_9 : decode cX5_gapIn 9 = .ok (.istore_n 3, 1) := by decide +kernel
theorem dX5_gapIn_10 : decode cX5_gapIn 10 = .ok (.aload_n 0, 1) := by decide +kernel
theorem dX5_gapIn_11 : decode cX5_gapIn 11 = .ok (.getfield 29, 3) := by decide +kernel
theorem dX5_gapIn_14 : decode cX5_gapIn 14 = .ok (.aload_n 0, 1) := by decide +kernel
theorem dX5_gapIn_15 : decode cX5_gapIn 15 = .ok (.getfield 33, 3) := by decide +kernel
theorem dX5_gapIn_18 : decode cX5_gapIn 18 = .ok (.iconst 1, 1) := by decide +kernel
theorem dX5_gapIn_19 : decode cX5_gapIn 19 = .ok (.isub, 1) := by decide +kernel
theorem dX5_gapIn_20 : decode cX5_gapIn 20 = .ok (.invokevirtual 46, 3) := by decide +kernel
theorem dX5_gapIn_23 : decode cX5_gapIn 23 = .ok (.istore 4, 2) := by decide +kernel
theorem dX5_gapIn_25 : decode cX5_gapIn 25 = .ok (.aload_n 0, 1) := by decide +kernel
theorem dX5_gapIn_26 : decode cX5_gapIn 26 = .ok (.getfield 29, 3) := by decide +kernel
theorem dX5_gapIn_29 : decode cX5_gapIn 29 = .ok (.aload_n 0, 1) := by decide +kernel
theorem dX5_gapIn_30 : decode cX5_gapIn 30 = .ok (.getfield 33, 3) := by decide +kernel
theorem dX5_gapIn_33 : decode cX5_gapIn 33 = .ok (.iconst 1, 1) := by decide +kernel
theorem dX5_gapIn_34 : decode cX5_gapIn 34 = .ok (.iadd, 1) := by decide +kernel
theorem dX5_gapIn_35 : decode cX5_gapIn 35 = .ok (.invokevirtual 46, 3) := by decide +kernel
theorem dX5_gapIn_38 : decode cX5_gapIn 38 = .ok (.istore 5, 2) := by decide +kernel
theorem dX5_gapIn_40 : decode cX5_gapIn 40 = .ok (.iload 4, 2) := by decide +kernel
theorem dX5_gapIn_42 : decode cX5_gapIn 42 = .ok (.ifCond .eq 21, 3) := by decide +kernel
theorem dX5_gapIn_45 : decode cX5_gapIn 45 = .ok (.aload_n 1, 1) := by decide +kernel
theorem dX5_gapIn_46 : decode cX5_gapIn 46 = .ok (.aload_n 0, 1) := by decide +kernel
theorem dX5_gapIn_47 : decode cX5_gapIn 47 = .ok (.getfield 33, 3) := by decide +kernel
theorem dX5_gapIn_50 : decode cX5_gapIn 50 = .ok (.iconst 1, 1) := by decide +kernel
theorem dX5_gapIn_51 : decode cX5_gapIn 51 = .ok (.isub, 1) := by decide +kernel
theorem dX5_gapIn_52 : decode cX5_gapIn 52 = .ok (.iconst 0, 1) := by decide +kernel
theorem dX5_gapIn_53 : decode cX5_gapIn 53 = .ok (.invokestatic 59, 3) := by decide +kernel
theorem dX5_gapIn_56 : decode cX5_gapIn 56 = .ok (.iload_n 3, 1) := by decide +kernel
theorem dX5_gapIn_57 : decode cX5_gapIn 57 = .ok (.invokestatic 113, 3) := by decide +kernel
theorem dX5_gapIn_60 : decode cX5_gapIn 60 = .ok (.goto 4, 3) := by decide +kernel
theorem dX5_gapIn_63 : decode cX5_gapIn 63 = .ok (.iload_n 2, 1) := by decide +kernel
theorem dX5_gapIn_64 : decode cX5_gapIn 64 = .ok (.istore 6, 2) := by decide +kernel
theorem dX5_gapIn_66 : decode cX5_gapIn 66 = .ok (.iload 5, 2) := by decide +kernel
theorem dX5_gapIn_68 : decode cX5_gapIn 68 = .ok (.ifCond .eq 21, 3) := by decide +kernel
theorem dX5_gapIn_71 : decode cX5_gapIn 71 = .ok (.aload_n 1, 1) := by decide +kernel
theorem dX5_gapIn_72 : decode cX5_gapIn 72 = .ok (.aload_n 0, 1) := by decide +kernel
theorem dX5_gapIn_73 : decode cX5_gapIn 73 = .ok (.getfield 33, 3) := by decide +kernel
theorem dX5_gapIn_76 : decode cX5_gapIn 76 = .ok (.iconst 1, 1) := by decide +kernel
theorem dX5_gapIn_77 : decode cX5_gapIn 77 = .ok (.iadd, 1) := by decide +kernel
theorem dX5_gapIn_78 : decode cX5_gapIn 78 = .ok (.iconst 0, 1) := by decide +kernel
theorem dX5_gapIn_79 : decode cX5_gapIn 79 = .ok (.invokestatic 59, 3) := by decide +kernel
theorem dX5_gapIn_82 : decode cX5_gapIn 82 = .ok (.iload_n 3, 1) := by decide +kernel
theorem dX5_gapIn_83 : decode cX5_gapIn 83 = .ok (.invokestatic 113, 3) := by decide +kernel
theorem dX5_gapIn_86 : decode cX5_gapIn 86 = .ok (.goto 4, 3) := by decide +kernel
theorem dX5_gapIn_89 : decode cX5_gapIn 89 = .ok (.iload_n 2, 1) := by decide +kernel
theorem dX5_gapIn_90 : decode cX5_gapIn 90 = .ok (.istore 7, 2) := by decide +kernel
theorem dX5_gapIn_92 : decode cX5_gapIn 92 = .ok (.iload 4, 2) := by decide +kernel
theorem dX5_gapIn_94 : decode cX5_gapIn 94 = .ok (.ifCond .eq 16, 3) := by decide +kernel
theorem dX5_gapIn_97 : decode cX5_gapIn 97 = .ok (.iload 5, 2) := by decide +kernel
theorem dX5_gapIn_99 : decode cX5_gapIn 99 = .ok (.ifCond .eq 11, 3) := by decide +kernel
theorem dX5_gapIn_102 : decode cX5_gapIn 102 = .ok (.iload 6, 2) := by decide +kernel
theorem dX5_gapIn_104 : decode cX5_gapIn 104 = .ok (.iload 7, 2) := by decide +kernel
theorem dX5_gapIn_106 : decode cX5_gapIn 106 = .ok (.invokestatic 159, 3) := by decide +kernel
theorem dX5_gapIn_109 : decode cX5_gapIn 109 = .ok (.ireturn, 1) := by decide +kernel
theorem dX5_gapIn_110 : decode cX5_gapIn 110 = .ok (.iload 4, 2) := by decide +kernel
theorem dX5_gapIn_112 : decode cX5_gapIn 112 = .ok (.ifCond .eq 8, 3) := by decide +kernel
theorem dX5_gapIn_115 : decode cX5_gapIn 115 = .ok (.iload 6, 2) := by decide +kernel
theorem dX5_gapIn_117 : decode cX5_gapIn 117 = .ok (.goto 5, 3) := by decide +kernel
theorem dX5_gapIn_120 : decode cX5_gapIn 120 = .ok (.iload 7, 2) := by decide +kernel
theorem dX5_gapIn_122 : decode cX5_gapIn 122 = .ok (.ireturn, 1) := by decide +kernel
set_option maxRecDepth 20000 in
theorem ggX5_gapIn_X5_least : GoodIn wsX5_gapIn wsX5_least := goodIn_r _ [21, 22, 4, 5, 6, 7] rfl (by decide +kernel)
set_option maxRecDepth 20000 in
theorem gX5_gapIn_X5_least : GoodIn wsX5_gapIn (va_wsS RX5 113 yX5_least wsX5_least) := goodIn_app (goodIn_of _ (by decide +kernel)) ggX5_gapIn_X5_least
set_option maxRecDepth 20000 in
theorem ggX5_gapIn_X6_placeOf : GoodIn wsX5_gapIn wsX6_placeOf := goodIn_r _ [17] rfl (by decide +kernel)
set_option maxRecDepth 20000 in
theorem gX5_gapIn_X6_placeOf : GoodIn wsX5_gapIn (va_wsS RX5 59 yX6_placeOf wsX6_placeOf) := goodIn_app (goodIn_of _ (by decide +kernel)) ggX5_gapIn_X6_placeOf
set_option maxRecDepth 20000 in
theorem ggX5_gapIn_X7_hasRing : GoodIn wsX5_gapIn wsX7_hasRing := goodIn_r _ [12, 13, 43, 44, 45, 46] rfl (by decide +kernel)
set_option maxRecDepth 20000 in
theorem gX5_gapIn_X7_hasRing : GoodIn wsX5_gapIn (wsV RX5 46 RX7 yX7_hasRing wsX7_hasRing) := goodIn_app (goodIn_of _ (by decide +kernel)) ggX5_gapIn_X7_hasRing
set_option maxHeartbeats 4000000 in
set_option maxRecDepth 100000 in
theorem S_X5_gapIn_38 (l : Launch) (D : va_G) (K : Nat → ClassId) (a : Nat → Nat) (G : gS) (p1 : Int32) (s1 : Int) (e1 : p1.toInt = s1) (hI : xI G) (sz : Nat) : Ki l yX5_gapIn wsX5_gapIn 2 64 0 0 D [.ref (a 6), .ref (a 38), .int p1] (xW K a G) (tK K) sz (fun (r : Int32) (_ : Unit) => True) (fun (_ : Unit) => (xW K a G)) (fun _ => (tK K)) := by
  unfold Ki
  refine g_ofW (cc := cX5_gapIn) (lv := [(0, .ref (a 6)), (1, .ref (a 38)), (2, .int p1)]) (by decide) rfl (Nat.le_of_ble_eq_true rfl) rfl ?_
  intro p e s m args below meth c A Q hA hQ F hr hnm
  have hts := F.2.2.2.2.1
  have w_0 : (Cond.methodLink RX5 159 Lib.Math.min.name).before args s = true := hts _ (List.mem_of_getElem? (i := 4) rfl)
  have w_1 : (Cond.static Lib.Math.min.name).before args s = true := hts _ (List.mem_of_getElem? (i := 5) rfl)
  have w_2 : (Cond.initialized "java/lang/Math").before args s = true := hts _ (List.mem_of_getElem? (i := 6) rfl)
  have w_3 : (Cond.code Lib.Math.min.name Lib.Math.min.code 2 (some .int)).before args s = true := hts _ (List.mem_of_getElem? (i := 7) rfl)
  have w_4 : (Cond.fieldLink RX5 33 "QuietCut$Lathe" "ring" "I").before args s = true := hts _ (List.mem_of_getElem? (i := 3) rfl)
  have i_X5 : ∀ w ∈ u_ws RX5 TX5 20, w ∈ wsX5_gapIn := fun _ h => List.mem_cons_of_mem _ (List.mem_append_left _ (List.mem_append_right _ h))
  have w_5 : (Cond.fieldLink RX5 29 "QuietCut$Lathe" "shop" "LQuietCut$Shop;").before args s = true := hts _ (List.mem_of_getElem? (i := 1) rfl)
  have w_6 : (Cond.fieldLink RX5 56 "QuietCut$Shop" "numbers" "[I").before args s = true := hts _ (List.mem_of_getElem? (i := 2) rfl)
  have i_X7 : ∀ w ∈ u_ws RX7 TX7 4, w ∈ wsX5_gapIn := fun _ h => List.mem_cons_of_mem _ (List.mem_append_right _ h)
  have rg1 : -2147483648 ≤ s1 ∧ s1 ≤ 2147483647 := e1 ▸ ti_rng p1
  have J_90 : ∀  (x90_4 : Int32) (x90_5 : Int32) (x90_6 : Int32) (z90_0 : Int32), (0 ≤ x90_4.toInt ∧ x90_4.toInt ≤ 1) → (0 ≤ x90_5.toInt ∧ x90_5.toInt ≤ 1) → gG p l e (gR 2 0 0 64) s m args below meth c D A 8 Q 0 0 (xW K a G) (tK K) [(4, .int x90_4), (5, .int x90_5), (6, .int x90_6)] 90 [.int z90_0] := by
    intro x90_4 x90_5 x90_6 z90_0 h90_4 h90_5
    refine g_istore F [(7, .int z90_0), (4, .int x90_4), (5, .int x90_5), (6, .int x90_6)] dX5_gapIn_90 (by decide) rfl ?_
    refine g_iload F 1 dX5_gapIn_92 rfl ?_
    refine v_if_eq F 110 dX5_gapIn_94 (by decide) x90_4.toInt rfl (fun c1 => ?_) (fun c1 => ?_)
    · refine g_iload F 1 dX5_gapIn_110 rfl ?_
      refine v_if_eq F 120 dX5_gapIn_112 (by decide) x90_4.toInt rfl (fun c2 => ?_) (fun c2 => absurd c2 (by omega))
      refine g_iload F 0 dX5_gapIn_120 rfl ?_
      exact u_iret F hA hQ hr () (trivial) rfl rfl dX5_gapIn_122
    · refine g_iload F 2 dX5_gapIn_97 rfl ?_
      refine v_if_eq F 110 dX5_gapIn_99 (by decide) x90_5.toInt rfl (fun c3 => ?_) (fun c3 => ?_)
      · refine g_iload F 1 dX5_gapIn_110 rfl ?_
        refine v_if_eq F 120 dX5_gapIn_112 (by decide) x90_4.toInt rfl (fun c4 => absurd c4 (by omega)) (fun c4 => ?_)
        refine g_iload F 3 dX5_gapIn_115 rfl ?_
        refine g_goto F 122 dX5_gapIn_117 (by decide) ?_
        exact u_iret F hA hQ hr () (trivial) rfl rfl dX5_gapIn_122
      · refine g_iload F 3 dX5_gapIn_102 rfl ?_
        refine g_iload F 0 dX5_gapIn_104 rfl ?_
        refine u_mmin F w_0 w_1 w_2 w_3 (Nat.le_of_ble_eq_true rfl) (Nat.le_of_ble_eq_true rfl) (Nat.le_of_ble_eq_true rfl) (Nat.le_of_ble_eq_true rfl) dX5_gapIn_106 x90_6.toInt z90_0.toInt rfl rfl (fun y5 ey5 => ?_)
        exact u_iret F hA hQ hr () (trivial) rfl rfl dX5_gapIn_109
  have J_64 : ∀  (x64_4 : Int32) (x64_5 : Int32) (z64_0 : Int32), (0 ≤ x64_4.toInt ∧ x64_4.toInt ≤ 1) → (0 ≤ x64_5.toInt ∧ x64_5.toInt ≤ 1) → gG p l e (gR 2 0 0 64) s m args below meth c D A 8 Q 0 0 (xW K a G) (tK K) [(0, .ref (a 6)), (1, .ref (a 38)), (2, .int p1), (3, .int (G 18 0)), (4, .int x64_4), (5, .int x64_5)] 64 [.int z64_0] := by
    intro x64_4 x64_5 z64_0 h64_4 h64_5
    refine g_istore F [(6, .int z64_0), (0, .ref (a 6)), (1, .ref (a 38)), (2, .int p1), (3, .int (G 18 0)), (4, .int x64_4), (5, .int x64_5)] dX5_gapIn_64 (by decide) rfl ?_
    refine g_iload F 6 dX5_gapIn_66 rfl ?_
    refine v_if_eq F 89 dX5_gapIn_68 (by decide) x64_5.toInt rfl (fun c6 => ?_) (fun c6 => ?_)
    · refine g_iload_n F 3 dX5_gapIn_89 rfl rfl ?_
      refine g_locals [(4, .int x64_4), (5, .int x64_5), (6, .int z64_0)] [5, 6, 0] rfl ?_
      exact J_90 x64_4 x64_5 z64_0 p1 (by have h9 := ti_rng x64_4; omega) (by have h9 := ti_rng x64_5; omega)
    · refine g_aload_n F 2 dX5_gapIn_71 rfl rfl ?_
      refine g_aload_n F 1 dX5_gapIn_72 rfl rfl ?_
      refine xg_6_1 F i_X5 w_4 dX5_gapIn_73 (G 6 1) (rfl) ?_
      refine g_iconst F 1 dX5_gapIn_76 (by decide) ?_
      refine u_iaddc F dX5_gapIn_77 (G 6 1).toInt 1 rfl rfl (fun y7 ey7 => ?_)
      refine g_iconst F 0 dX5_gapIn_78 (by decide) ?_
      refine u_call0 (k := 0) (n := 0) (As := [.int y7, .int 0]) (st := [.ref (a 38)]) F (fun sz => S_X6_placeOf l D y7 y7.toInt 0 0 rfl rfl sz) (va_cwS 2 hts gX5_gapIn_X6_placeOf rfl rfl rfl (by decide +kernel) ⟨Nat.le_of_ble_eq_true rfl, Nat.le_of_ble_eq_true rfl⟩) rfl (Nat.le_of_ble_eq_true rfl) ⟨Nat.zero_le _, Nat.zero_le _⟩ dX5_gapIn_79 (fun r8 _ hw9 => ?_)
      refine g_iload_n F 4 dX5_gapIn_82 rfl rfl ?_
      have b11 : (4 : Int) ≤ (G 18 0).toInt ∧ (G 18 0).toInt ≤ 16 := hI 18 0
      refine u_callSi (k := 0) (n := 0) (As := [.ref (a 38), .int r8, .int (G 18 0)]) (st := []) F (fun sz => S_X5_least_38 l D K a G r8 r8.toInt (G 18 0) (G 18 0).toInt rfl rfl hI sz) (va_cwS 3 hts gX5_gapIn_X5_least rfl rfl rfl (by decide +kernel) ⟨Nat.le_of_ble_eq_true rfl, Nat.le_of_ble_eq_true rfl⟩) rfl (Nat.le_of_ble_eq_true rfl) ⟨Nat.zero_le _, Nat.zero_le _⟩ dX5_gapIn_83 (fun r12 _ hw13 => ?_)
      have rg15 := hw13
      clear hw13
      refine g_goto F 90 dX5_gapIn_86 (by decide) ?_
      refine g_locals [(4, .int x64_4), (5, .int x64_5), (6, .int z64_0)] [5, 6, 0] rfl ?_
      exact J_90 x64_4 x64_5 z64_0 r12 (by have h9 := ti_rng x64_4; omega) (by have h9 := ti_rng x64_5; omega)
  refine g_aload_n F 0 dX5_gapIn_0 rfl rfl ?_
  refine xg_6_0 F i_X5 w_5 dX5_gapIn_1 ?_
  refine xg_2_0 F i_X7 w_6 dX5_gapIn_4 ?_
  refine g_iconst F 0 dX5_gapIn_7 (by decide) ?_
  refine u1_iald F 18 0 xc_18 rfl 0 rfl (by decide) (by decide) dX5_gapIn_8 (G 18 0) (rfl) ?_
  refine g_istore_n F [(3, .int (G 18 0)), (0, .ref (a 6)), (1, .ref (a 38)), (2, .int p1)] dX5_gapIn_9 rfl (by decide) rfl ?_
  refine g_aload_n F 1 dX5_gapIn_10 rfl rfl ?_
  refine xg_6_0 F i_X5 w_5 dX5_gapIn_11 ?_
  refine g_aload_n F 1 dX5_gapIn_14 rfl rfl ?_
  refine xg_6_1 F i_X5 w_4 dX5_gapIn_15 (G 6 1) (rfl) ?_
  refine g_iconst F 1 dX5_gapIn_18 (by decide) ?_
  refine u_isubc F dX5_gapIn_19 (G 6 1).toInt 1 rfl rfl (fun y16 ey16 => ?_)
  refine u_callVi (k := 0) (n := 0) (b := a 2) (As := [.int y16]) (st := []) F (fun sz => S_X7_hasRing_2 l D K a G y16 y16.toInt rfl hI sz) (cwV 1 hts gX5_gapIn_X7_hasRing rfl rfl rfl (by decide +kernel) ⟨Nat.le_of_ble_eq_true rfl, Nat.le_of_ble_eq_true rfl⟩) rfl 2 xc_2 rfl (Nat.le_of_ble_eq_true rfl) ⟨Nat.zero_le _, Nat.zero_le _⟩ dX5_gapIn_20 (fun r17 _ hw18 => ?_)
  rcases hw18 with ⟨rfl, q20⟩ | ⟨rfl, q21⟩
  · have b22 : (1 : Int) ≤ (G 18 1).toInt ∧ (G 18 1).toInt ≤ 6 := hI 18 1
    have q20 : (0 ≤ y16.toInt ∧ y16.toInt < (G 18 1).toInt) := q20
    refine g_istore F [(4, .int 1), (3, .int (G 18 0)), (0, .ref (a 6)), (1, .ref (a 38)), (2, .int p1)] dX5_gapIn_23 (by decide) rfl ?_
    refine g_aload_n F 2 dX5_gapIn_25 rfl rfl ?_
    refine xg_6_0 F i_X5 w_5 dX5_gapIn_26 ?_
    refine g_aload_n F 2 dX5_gapIn_29 rfl rfl ?_
    refine xg_6_1 F i_X5 w_4 dX5_gapIn_30 (G 6 1) (rfl) ?_
    refine g_iconst F 1 dX5_gapIn_33 (by decide) ?_
    refine u_iaddc F dX5_gapIn_34 (G 6 1).toInt 1 rfl rfl (fun y23 ey23 => ?_)
    refine u_callVi (k := 0) (n := 0) (b := a 2) (As := [.int y23]) (st := []) F (fun sz => S_X7_hasRing_2 l D K a G y23 y23.toInt rfl hI sz) (cwV 1 hts gX5_gapIn_X7_hasRing rfl rfl rfl (by decide +kernel) ⟨Nat.le_of_ble_eq_true rfl, Nat.le_of_ble_eq_true rfl⟩) rfl 2 xc_2 rfl (Nat.le_of_ble_eq_true rfl) ⟨Nat.zero_le _, Nat.zero_le _⟩ dX5_gapIn_35 (fun r24 _ hw25 => ?_)
    rcases hw25 with ⟨rfl, q27⟩ | ⟨rfl, q28⟩
    · have q27 : (0 ≤ y23.toInt ∧ y23.toInt < (G 18 1).toInt) := q27
      refine g_istore F [(5, .int 1), (4, .int 1), (3, .int (G 18 0)), (0, .ref (a 6)), (1, .ref (a 38)), (2, .int p1)] dX5_gapIn_38 (by decide) rfl ?_
      refine g_iload F 1 dX5_gapIn_40 rfl ?_
      refine v_if_eq F 63 dX5_gapIn_42 (by decide) 1 rfl (fun c29 => absurd c29 (by decide)) (fun c29 => ?_)
      refine g_aload_n F 4 dX5_gapIn_45 rfl rfl ?_
      refine g_aload_n F 3 dX5_gapIn_46 rfl rfl ?_
      refine xg_6_1 F i_X5 w_4 dX5_gapIn_47 (G 6 1) (rfl) ?_
      refine g_iconst F 1 dX5_gapIn_50 (by decide) ?_
      refine u_isubc F dX5_gapIn_51 (G 6 1).toInt 1 rfl rfl (fun y30 ey30 => ?_)
      refine g_iconst F 0 dX5_gapIn_52 (by decide) ?_
      refine u_call0 (k := 0) (n := 0) (As := [.int y30, .int 0]) (st := [.ref (a 38)]) F (fun sz => S_X6_placeOf l D y30 y30.toInt 0 0 rfl rfl sz) (va_cwS 2 hts gX5_gapIn_X6_placeOf rfl rfl rfl (by decide +kernel) ⟨Nat.le_of_ble_eq_true rfl, Nat.le_of_ble_eq_true rfl⟩) rfl (Nat.le_of_ble_eq_true rfl) ⟨Nat.zero_le _, Nat.zero_le _⟩ dX5_gapIn_53 (fun r31 _ hw32 => ?_)
      refine g_iload_n F 2 dX5_gapIn_56 rfl rfl ?_
      have b34 : (4 : Int) ≤ (G 18 0).toInt ∧ (G 18 0).toInt ≤ 16 := hI 18 0
      refine u_callSi (k := 0) (n := 0) (As := [.ref (a 38), .int r31, .int (G 18 0)]) (st := []) F (fun sz => S_X5_least_38 l D K a G r31 r31.toInt (G 18 0) (G 18 0).toInt rfl rfl hI sz) (va_cwS 3 hts gX5_gapIn_X5_least rfl rfl rfl (by decide +kernel) ⟨Nat.le_of_ble_eq_true rfl, Nat.le_of_ble_eq_true rfl⟩) rfl (Nat.le_of_ble_eq_true rfl) ⟨Nat.zero_le _, Nat.zero_le _⟩ dX5_gapIn_57 (fun r35 _ hw36 => ?_)
      have rg38 := hw36
      clear hw36
      refine g_goto F 64 dX5_gapIn_60 (by decide) ?_
      refine g_locals [(0, .ref (a 6)), (1, .ref (a 38)), (2, .int p1), (3, .int (G 18 0)), (4, .int 1), (5, .int 1)] [3, 4, 5, 2, 1, 0] rfl ?_
      exact J_64 1 1 r35 (by decide) (by decide)
    · have q28 : (y23.toInt < 0 ∨ (G 18 1).toInt ≤ y23.toInt) := q28
      refine g_istore F [(5, .int 0), (4, .int 1), (3, .int (G 18 0)), (0, .ref (a 6)), (1, .ref (a 38)), (2, .int p1)] dX5_gapIn_38 (by decide) rfl ?_
      refine g_iload F 1 dX5_gapIn_40 rfl ?_
      refine v_if_eq F 63 dX5_gapIn_42 (by decide) 1 rfl (fun c39 => absurd c39 (by decide)) (fun c39 => ?_)
      refine g_aload_n F 4 dX5_gapIn_45 rfl rfl ?_
      refine g_aload_n F 3 dX5_gapIn_46 rfl rfl ?_
      refine xg_6_1 F i_X5 w_4 dX5_gapIn_47 (G 6 1) (rfl) ?_
      refine g_iconst F 1 dX5_gapIn_50 (by decide) ?_
      refine u_isubc F dX5_gapIn_51 (G 6 1).toInt 1 rfl rfl (fun y40 ey40 => ?_)
      refine g_iconst F 0 dX5_gapIn_52 (by decide) ?_
      refine u_call0 (k := 0) (n := 0) (As := [.int y40, .int 0]) (st := [.ref (a 38)]) F (fun sz => S_X6_placeOf l D y40 y40.toInt 0 0 rfl rfl sz) (va_cwS 2 hts gX5_gapIn_X6_placeOf rfl rfl rfl (by decide +kernel) ⟨Nat.le_of_ble_eq_true rfl, Nat.le_of_ble_eq_true rfl⟩) rfl (Nat.le_of_ble_eq_true rfl) ⟨Nat.zero_le _, Nat.zero_le _⟩ dX5_gapIn_53 (fun r41 _ hw42 => ?_)
      refine g_iload_n F 2 dX5_gapIn_56 rfl rfl ?_
      have b44 : (4 : Int) ≤ (G 18 0).toInt ∧ (G 18 0).toInt ≤ 16 := hI 18 0
      refine u_callSi (k := 0) (n := 0) (As := [.ref (a 38), .int r41, .int (G 18 0)]) (st := []) F (fun sz => S_X5_least_38 l D K a G r41 r41.toInt (G 18 0) (G 18 0).toInt rfl rfl hI sz) (va_cwS 3 hts gX5_gapIn_X5_least rfl rfl rfl (by decide +kernel) ⟨Nat.le_of_ble_eq_true rfl, Nat.le_of_ble_eq_true rfl⟩) rfl (Nat.le_of_ble_eq_true rfl) ⟨Nat.zero_le _, Nat.zero_le _⟩ dX5_gapIn_57 (fun r45 _ hw46 => ?_)
      have rg48 := hw46
      clear hw46
      refine g_goto F 64 dX5_gapIn_60 (by decide) ?_
      refine g_locals [(0, .ref (a 6)), (1, .ref (a 38)), (2, .int p1), (3, .int (G 18 0)), (4, .int 1), (5, .int 0)] [3, 4, 5, 2, 1, 0] rfl ?_
      exact J_64 1 0 r45 (by decide) (by decide)
  · have b49 : (1 : Int) ≤ (G 18 1).toInt ∧ (G 18 1).toInt ≤ 6 := hI 18 1
    have q21 : (y16.toInt < 0 ∨ (G 18 1).toInt ≤ y16.toInt) := q21
    refine g_istore F [(4, .int 0), (3, .int (G 18 0)), (0, .ref (a 6)), (1, .ref (a 38)), (2, .int p1)] dX5_gapIn_23 (by decide) rfl ?_
    refine g_aload_n F 2 dX5_gapIn_25 rfl rfl ?_
    refine xg_6_0 F i_X5 w_5 dX5_gapIn_26 ?_
    refine g_aload_n F 2 dX5_gapIn_29 rfl rfl ?_
    refine xg_6_1 F i_X5 w_4 dX5_gapIn_30 (G 6 1) (rfl) ?_
    refine g_iconst F 1 dX5_gapIn_33 (by decide) ?_
    refine u_iaddc F dX5_gapIn_34 (G 6 1).toInt 1 rfl rfl (fun y50 ey50 => ?_)
    refine u_callVi (k := 0) (n := 0) (b := a 2) (As := [.int y50]) (st := []) F (fun sz => S_X7_hasRing_2 l D K a G y50 y50.toInt rfl hI sz) (cwV 1 hts gX5_gapIn_X7_hasRing rfl rfl rfl (by decide +kernel) ⟨Nat.le_of_ble_eq_true rfl, Nat.le_of_ble_eq_true rfl⟩) rfl 2 xc_2 rfl (Nat.le_of_ble_eq_true rfl) ⟨Nat.zero_le _, Nat.zero_le _⟩ dX5_gapIn_35 (fun r51 _ hw52 => ?_)
    rcases hw52 with ⟨rfl, q54⟩ | ⟨rfl, q55⟩
    · have q54 : (0 ≤ y50.toInt ∧ y50.toInt < (G 18 1).toInt) := q54
      refine g_istore F [(5, .int 1), (4, .int 0), (3, .int (G 18 0)), (0, .ref (a 6)), (1, .ref (a 38)), (2, .int p1)] dX5_gapIn_38 (by decide) rfl ?_
      refine g_iload F 1 dX5_gapIn_40 rfl ?_
      refine v_if_eq F 63 dX5_gapIn_42 (by decide) 0 rfl (fun c56 => ?_) (fun c56 => absurd c56 (by decide))
      refine g_iload_n F 5 dX5_gapIn_63 rfl rfl ?_
      refine g_locals [(0, .ref (a 6)), (1, .ref (a 38)), (2, .int p1), (3, .int (G 18 0)), (4, .int 0), (5, .int 1)] [3, 4, 5, 2, 1, 0] rfl ?_
      exact J_64 0 1 p1 (by decide) (by decide)
    · have q55 : (y50.toInt < 0 ∨ (G 18 1).toInt ≤ y50.toInt) := q55
      refine g_istore F [(5, .int 0), (4, .int 0), (3, .int (G 18 0)), (0, .ref (a 6)), (1, .ref (a 38)), (2, .int p1)] dX5_gapIn_38 (by decide) rfl ?_
      refine g_iload F 1 dX5_gapIn_40 rfl ?_
      refine v_if_eq F 63 dX5_gapIn_42 (by decide) 0 rfl (fun c57 => ?_) (fun c57 => absurd c57 (by decide))
      refine g_iload_n F 5 dX5_gapIn_63 rfl rfl ?_
      refine g_locals [(0, .ref (a 6)), (1, .ref (a 38)), (2, .int p1), (3, .int (G 18 0)), (4, .int 0), (5, .int 0)] [3, 4, 5, 2, 1, 0] rfl ?_
      exact J_64 0 0 p1 (by decide) (by decide)

theorem dJ9_floorMod_7cf53_0 : decode cJ9_floorMod_7cf53 0 = .ok (.iload_n 0, 1) := by decide +kernel
theorem dJ9_floorMod_7cf53_1 : decode cJ9_floorMod_7cf53 1 = .ok (.iload_n 1, 1) := by decide +kernel
theorem dJ9_floorMod_7cf53_2 : decode cJ9_floorMod_7cf53 2 = .ok (.irem, 1) := by decide +kernel
theorem dJ9_floorMod_7cf53_3 : decode cJ9_floorMod_7cf53 3 = .ok (.istore_n 2, 1) := by decide +kernel
theorem dJ9_floorMod_7cf53_4 : decode cJ9_floorMod_7cf53 4 = .ok (.iload_n 0, 1) := by decide +kernel
theorem dJ9_floorMod_7cf53_5 : decode cJ9_floorMod_7cf53 5 = .ok (.iload_n 1, 1) := by decide +kernel
theorem dJ9_floorMod_7cf53_6 : decode cJ9_floorMod_7cf53 6 = .ok (.ixor, 1) := by decide +kernel
theorem dJ9_floorMod_7cf53_7 : decode cJ9_floorMod_7cf53 7 = .ok (.ifCond .ge 11, 3) := by decide +kernel
theorem dJ9_floorMod_7cf53_10 : decode cJ9_floorMod_7cf53 10 = .ok (.iload_n 2, 1) := by decide +kernel
theorem dJ9_floorMod_7cf53_11 : decode cJ9_floorMod_7cf53 11 = .ok (.ifCond .eq 7, 3) := by decide +kernel
theorem dJ9_floorMod_7cf53_14 : decode cJ9_floorMod_7cf53 14 = .ok (.iload_n 2, 1) := by decide +kernel
theorem dJ9_floorMod_7cf53_15 : decode cJ9_floorMod_7cf53 15 = .ok (.iload_n 1, 1) := by decide +kernel
theorem dJ9_floorMod_7cf53_16 : decode cJ9_floorMod_7cf53 16 = .ok (.iadd, 1) := by decide +kernel
theorem dJ9_floorMod_7cf53_17 : decode cJ9_floorMod_7cf53 17 = .ok (.ireturn, 1) := by decide +kernel
theorem dJ9_floorMod_7cf53_18 : decode cJ9_floorMod_7cf53 18 = .ok (.iload_n 2, 1) := by decide +kernel
theorem dJ9_floorMod_7cf53_19 : decode cJ9_floorMod_7cf53 19 = .ok (.ireturn, 1) := by decide +kernel
set_option maxHeartbeats 4000000 in
set_option maxRecDepth 100000 in
theorem S_J9_floorMod_7cf53 (l : Launch) (D : va_G)  (p0 : Int32) (s0 : Int) (p1 : Int32) (s1 : Int) (e0 : p0.toInt = s0) (h0 : 0 ≤ s0 ∧ s0 ≤ 31) (e1 : p1.toInt = s1) (h1 : 1 ≤ s1 ∧ s1 ≤ 16) (sz : Nat) : Ki l yJ9_floorMod_7cf53 wsJ9_floorMod_7cf53 1 40 0 0 D [.int p0, .int p1] [] [] sz (fun (r : Int32) (_ : Unit) => (0 ≤ r.toInt ∧ r.toInt ≤ 15)) (fun (_ : Unit) => []) (fun _ => []) := by
  unfold Ki
  refine g_ofWF (cc := cJ9_floorMod_7cf53) (lv := [(0, .int p0), (1, .int p1)]) (by decide +kernel) rfl (Nat.le_of_ble_eq_true rfl) rfl ?_
  intro p e s m args below meth c A Q hA hQ F hr hnm
  have hts := F.2.2.2.2.1
  refine g_iload_n F 0 dJ9_floorMod_7cf53_0 rfl rfl ?_
  refine g_iload_n F 1 dJ9_floorMod_7cf53_1 rfl rfl ?_
  refine u_iremb F dJ9_floorMod_7cf53_2 (ti_ne0 e1 (by omega)) s0 s1 e0 e1 (by omega) (by omega) (fun y1 ey1 => ?_)
  refine g_istore_n F [(2, .int y1), (0, .int p0), (1, .int p1)] dJ9_floorMod_7cf53_3 rfl (by decide) rfl ?_
  refine g_iload_n F 1 dJ9_floorMod_7cf53_4 rfl rfl ?_
  refine g_iload_n F 2 dJ9_floorMod_7cf53_5 rfl rfl ?_
  refine u_ixor F dJ9_floorMod_7cf53_6 s0 s1 e0 e1 (by omega) (by omega) (fun y2 ey2 => ?_)
  have b3 := ti_rng y2
  refine v_if_ge F 18 dJ9_floorMod_7cf53_7 (by decide) y2.toInt rfl (fun c4 => ?_) (fun c4 => absurd c4 (by omega))
  refine g_iload_n F 0 dJ9_floorMod_7cf53_18 rfl rfl ?_
  exact u_iret F hA hQ hr () ((by have h9 := ti_rng y1; omega)) rfl rfl dJ9_floorMod_7cf53_19

theorem dX3_joined_0 : decode cX3_joined 0 = .ok (.iload_n 0, 1) := by decide +kernel
theorem dX3_joined_1 : decode cX3_joined 1 = .ok (.tableswitch 63 42 47 #[47, 39, 63, 43, 63, 51], 39) := by decide +kernel
theorem dX3_joined_40 : decode cX3_joined 40 = .ok (.iload_n 1, 1) := by decide +kernel
theorem dX3_joined_41 : decode cX3_joined 41 = .ok (.iload_n 2, 1) := by decide +kernel
theorem dX3_joined_42 : decode cX3_joined 42 = .ok (.iadd, 1) := by decide +kernel
theorem dX3_joined_43 : decode cX3_joined 43 = .ok (.ireturn, 1) := by decide +kernel
theorem dX3_joined_44 : decode cX3_joined 44 = .ok (.iload_n 1, 1) := by decide +kernel
theorem dX3_joined_45 : decode cX3_joined 45 = .ok (.iload_n 2, 1) := by decide +kernel
theorem dX3_joined_46 : decode cX3_joined 46 = .ok (.isub, 1) := by decide +kernel
theorem dX3_joined_47 : decode cX3_joined 47 = .ok (.ireturn, 1) := by decide +kernel
theorem dX3_joined_48 : decode cX3_joined 48 = .ok (.iload_n 1, 1) := by decide +kernel
theorem dX3_joined_49 : decode cX3_joined 49 = .ok (.iload_n 2, 1) := by decide +kernel
theorem dX3_joined_50 : decode cX3_joined 50 = .ok (.imul, 1) := by decide +kernel
theorem dX3_joined_51 : decode cX3_joined 51 = .ok (.ireturn, 1) := by decide +kernel
theorem dX3_joined_52 : decode cX3_joined 52 = .ok (.iload_n 2, 1) := by decide +kernel
theorem dX3_joined_53 : decode cX3_joined 53 = .ok (.ifCond .ne 7, 3) := by decide +kernel
theorem dX3_joined_56 : decode cX3_joined 56 = .ok (.iconst 0, 1) := by decide +kernel
theorem dX3_joined_57 : decode cX3_joined 57 = .ok (.goto 6, 3) := by decide +kernel
theorem dX3_joined_60 : decode cX3_joined 60 = .ok (.iload_n 1, 1) := by decide +kernel
theorem dX3_joined_61 : decode cX3_joined 61 = .ok (.iload_n 2, 1) := by decide +kernel
theorem dX3_joined_62 : decode cX3_joined 62 = .ok (.idiv, 1) := by decide +kernel
theorem dX3_joined_63 : decode cX3_joined 63 = .ok (.ireturn, 1) := by decide +kernel
theorem dX3_joined_64 : decode cX3_joined 64 = .ok (.iload_n 2, 1) := by decide +kernel
theorem dX3_joined_65 : decode cX3_joined 65 = .ok (.ifCond .ne 7, 3) := by decide +kernel
theorem dX3_joined_68 : decode cX3_joined 68 = .ok (.iconst 0, 1) := by decide +kernel
theorem dX3_joined_69 : decode cX3_joined 69 = .ok (.goto 6, 3) := by decide +kernel
theorem dX3_joined_72 : decode cX3_joined 72 = .ok (.iload_n 1, 1) := by decide +kernel
theorem dX3_joined_73 : decode cX3_joined 73 = .ok (.iload_n 2, 1) := by decide +kernel
theorem dX3_joined_74 : decode cX3_joined 74 = .ok (.irem, 1) := by decide +kernel
theorem dX3_joined_75 : decode cX3_joined 75 = .ok (.ireturn, 1) := by decide +kernel
set_option maxHeartbeats 4000000 in
set_option maxRecDepth 100000 in
theorem S_X3_joined (l : Launch) (D : va_G)  (p0 : Int32) (s0 : Int) (p1 : Int32) (s1 : Int) (p2 : Int32) (s2 : Int) (e0 : p0.toInt = s0) (e1 : p1.toInt = s1) (e2 : p2.toInt = s2) (sz : Nat) : Ki l yX3_joined wsX3_joined 1 40 0 0 D [.int p0, .int p1, .int p2] [] [] sz (fun (r : Int32) (_ : Unit) => ((r.toInt = (eJ s0 p1 p2).toInt))) (fun (_ : Unit) => []) (fun _ => []) := by
  unfold Ki
  refine g_ofW (cc := cX3_joined) (lv := [(0, .int p0), (1, .int p1), (2, .int p2)]) (by decide) rfl (Nat.le_of_ble_eq_true rfl) rfl ?_
  intro p e s m args below meth c A Q hA hQ F hr hnm
  have hts := F.2.2.2.2.1
  have rg0 : -2147483648 ≤ s0 ∧ s0 ≤ 2147483647 := e0 ▸ ti_rng p0
  have rg1 : -2147483648 ≤ s1 ∧ s1 ≤ 2147483647 := e1 ▸ ti_rng p1
  have rg2 : -2147483648 ≤ s2 ∧ s2 ≤ 2147483647 := e2 ▸ ti_rng p2
  refine g_iload_n F 0 dX3_joined_0 rfl rfl ?_
  rcases (show s0 = 42 ∨ s0 = 43 ∨ s0 = 44 ∨ s0 = 45 ∨ s0 = 46 ∨ s0 = 47 ∨ (s0 < 42 ∨ 47 < s0) by omega) with c1 | c1 | c1 | c1 | c1 | c1 | c1
  · have c1' : Int32.toInt p0 = 42 := (e0).trans c1
    refine g_tableIn F 48 dX3_joined_1 (by rw [c1']; decide) (by rw [c1']; decide) (by rw [c1']; rfl) (by decide) ?_
    refine g_iload_n F 1 dX3_joined_48 rfl rfl ?_
    refine g_iload_n F 2 dX3_joined_49 rfl rfl ?_
    refine g_imul F dX3_joined_50 ?_
    exact u_iret F hA hQ hr () ((by unfold eJ; (repeat' split) <;> first | rfl | (exfalso; omega))) rfl rfl dX3_joined_51
  · have c1' : Int32.toInt p0 = 43 := (e0).trans c1
    refine g_tableIn F 40 dX3_joined_1 (by rw [c1']; decide) (by rw [c1']; decide) (by rw [c1']; rfl) (by decide) ?_
    refine g_iload_n F 1 dX3_joined_40 rfl rfl ?_
    refine g_iload_n F 2 dX3_joined_41 rfl rfl ?_
    refine g_iadd F dX3_joined_42 ?_
    exact u_iret F hA hQ hr () ((by unfold eJ; (repeat' split) <;> first | rfl | (exfalso; omega))) rfl rfl dX3_joined_43
  · have c1' : Int32.toInt p0 = 44 := (e0).trans c1
    refine g_tableIn F 64 dX3_joined_1 (by rw [c1']; decide) (by rw [c1']; decide) (by rw [c1']; rfl) (by decide) ?_
    refine g_iload_n F 2 dX3_joined_64 rfl rfl ?_
    refine v_if_ne F 72 dX3_joined_65 (by decide) s2 e2 (fun c2 => ?_) (fun c2 => ?_)
    · refine g_iload_n F 1 dX3_joined_72 rfl rfl ?_
      refine g_iload_n F 2 dX3_joined_73 rfl rfl ?_
      refine g_irem F dX3_joined_74 (ti_ne0 e2 (by omega)) ?_
      exact u_iret F hA hQ hr () ((by unfold eJ; (repeat' split) <;> first | rfl | (exfalso; omega))) rfl rfl dX3_joined_75
    · refine g_iconst F 0 dX3_joined_68 (by decide) ?_
      refine g_goto F 75 dX3_joined_69 (by decide) ?_
      exact u_iret F hA hQ hr () ((by unfold eJ; (repeat' split) <;> first | rfl | (exfalso; omega))) rfl rfl dX3_joined_75
  · have c1' : Int32.toInt p0 = 45 := (e0).trans c1
    refine g_tableIn F 44 dX3_joined_1 (by rw [c1']; decide) (by rw [c1']; decide) (by rw [c1']; rfl) (by decide) ?_
    refine g_iload_n F 1 dX3_joined_44 rfl rfl ?_
    refine g_iload_n F 2 dX3_joined_45 rfl rfl ?_
    refine g_isub F dX3_joined_46 ?_
    exact u_iret F hA hQ hr () ((by unfold eJ; (repeat' split) <;> first | rfl | (exfalso; omega))) rfl rfl dX3_joined_47
  · have c1' : Int32.toInt p0 = 46 := (e0).trans c1
    refine g_tableIn F 64 dX3_joined_1 (by rw [c1']; decide) (by rw [c1']; decide) (by rw [c1']; rfl) (by decide) ?_
    refine g_iload_n F 2 dX3_joined_64 rfl rfl ?_
    refine v_if_ne F 72 dX3_joined_65 (by decide) s2 e2 (fun c3 => ?_) (fun c3 => ?_)
    · refine g_iload_n F 1 dX3_joined_72 rfl rfl ?_
      refine g_iload_n F 2 dX3_joined_73 rfl rfl ?_
      refine g_irem F dX3_joined_74 (ti_ne0 e2 (by omega)) ?_
      exact u_iret F hA hQ hr () ((by unfold eJ; (repeat' split) <;> first | rfl | (exfalso; omega))) rfl rfl dX3_joined_75
    · refine g_iconst F 0 dX3_joined_68 (by decide) ?_
      refine g_goto F 75 dX3_joined_69 (by decide) ?_
      exact u_iret F hA hQ hr () ((by unfold eJ; (repeat' split) <;> first | rfl | (exfalso; omega))) rfl rfl dX3_joined_75
  · have c1' : Int32.toInt p0 = 47 := (e0).trans c1
    refine g_tableIn F 52 dX3_joined_1 (by rw [c1']; decide) (by rw [c1']; decide) (by rw [c1']; rfl) (by decide) ?_
    refine g_iload_n F 2 dX3_joined_52 rfl rfl ?_
    refine v_if_ne F 60 dX3_joined_53 (by decide) s2 e2 (fun c4 => ?_) (fun c4 => ?_)
    · refine g_iload_n F 1 dX3_joined_60 rfl rfl ?_
      refine g_iload_n F 2 dX3_joined_61 rfl rfl ?_
      refine g_idiv F dX3_joined_62 (ti_ne0 e2 (by omega)) ?_
      exact u_iret F hA hQ hr () ((by unfold eJ; (repeat' split) <;> first | rfl | (exfalso; omega))) rfl rfl dX3_joined_63
    · refine g_iconst F 0 dX3_joined_56 (by decide) ?_
      refine g_goto F 63 dX3_joined_57 (by decide) ?_
      exact u_iret F hA hQ hr () ((by unfold eJ; (repeat' split) <;> first | rfl | (exfalso; omega))) rfl rfl dX3_joined_63
  · refine g_tableOut F 64 dX3_joined_1 (by rw [e0]; exact c1) (by decide) ?_
    refine g_iload_n F 2 dX3_joined_64 rfl rfl ?_
    refine v_if_ne F 72 dX3_joined_65 (by decide) s2 e2 (fun c5 => ?_) (fun c5 => ?_)
    · refine g_iload_n F 1 dX3_joined_72 rfl rfl ?_
      refine g_iload_n F 2 dX3_joined_73 rfl rfl ?_
      refine g_irem F dX3_joined_74 (ti_ne0 e2 (by omega)) ?_
      exact u_iret F hA hQ hr () ((by unfold eJ; (repeat' split) <;> first | rfl | (exfalso; omega))) rfl rfl dX3_joined_75
    · refine g_iconst F 0 dX3_joined_68 (by decide) ?_
      refine g_goto F 75 dX3_joined_69 (by decide) ?_
      exact u_iret F hA hQ hr () ((by unfold eJ; (repeat' split) <;> first | rfl | (exfalso; omega))) rfl rfl dX3_joined_75

theorem dX3_value_0 : decode cX3_value 0 = .ok (.iconst 0, 1) := by decide +kernel
theorem dX3_value_1 : decode cX3_value 1 = .ok (.istore_n 3, 1) := by decide +kernel
theorem dX3_value_2 : decode cX3_value 2 = .ok (.iconst 0, 1) := by decide +kernel
theorem dX3_value_3 : decode cX3_value 3 = .ok (.istore 4, 2) := by decide +kernel
theorem dX3_value_5 : decode cX3_value 5 = .ok (.iload 4, 2) := by decide +kernel
theorem dX3_value_7 : decode cX3_value 7 = .ok (.aload_n 0, 1) := by decide +kernel
theorem dX3_value_8 : decode cX3_value 8 = .ok (.getfield 21, 3) := by decide +kernel
theorem dX3_value_11 : decode cX3_value 11 = .ok (.if_icmp .ge 149, 3) := by decide +kernel
theorem dX3_value_14 : decode cX3_value 14 = .ok (.iload 4, 2) := by decide +kernel
theorem dX3_value_16 : decode cX3_value 16 = .ok (.bipush 80, 2) := by decide +kernel
theorem dX3_value_18 : decode cX3_value 18 = .ok (.if_icmp .ge 142, 3) := by decide +kernel
theorem dX3_value_21 : decode cX3_value 21 = .ok (.aload_n 0, 1) := by decide +kernel
theorem dX3_value_22 : decode cX3_value 22 = .ok (.getfield 11, 3) := by decide +kernel
theorem dX3_value_25 : decode cX3_value 25 = .ok (.iload 4, 2) := by decide +kernel
theorem dX3_value_27 : decode cX3_value 27 = .ok (.iaload, 1) := by decide +kernel
theorem dX3_value_28 : decode cX3_value 28 = .ok (.istore 5, 2) := by decide +kernel
theorem dX3_value_30 : decode cX3_value 30 = .ok (.iload 5, 2) := by decide +kernel
theorem dX3_value_32 : decode cX3_value 32 = .ok (.bipush (-2), 2) := by decide +kernel
theorem dX3_value_34 : decode cX3_value 34 = .ok (.if_icmp .lt 46, 3) := by decide +kernel
theorem dX3_value_37 : decode cX3_value 37 = .ok (.iload_n 3, 1) := by decide +kernel
theorem dX3_value_38 : decode cX3_value 38 = .ok (.bipush 12, 2) := by decide +kernel
theorem dX3_value_40 : decode cX3_value 40 = .ok (.if_icmp .lt 5, 3) := by decide +kernel
theorem dX3_value_43 : decode cX3_value 43 = .ok (.iconst 0, 1) := by decide +kernel
theorem dX3_value_44 : decode cX3_value 44 = .ok (.ireturn, 1) := by decide +kernel
theorem dX3_value_45 : decode cX3_value 45 = .ok (.aload_n 0, 1) := by decide +kernel
theorem dX3_value_46 : decode cX3_value 46 = .ok (.getfield 15, 3) := by decide +kernel
theorem dX3_value_49 : decode cX3_value 49 = .ok (.iload_n 3, 1) := by decide +kernel
theorem dX3_value_50 : decode cX3_value 50 = .ok (.iload 5, 2) := by decide +kernel
theorem dX3_value_52 : decode cX3_value 52 = .ok (.iconst (-1), 1) := by decide +kernel
theorem dX3_value_53 : decode cX3_value 53 = .ok (.if_icmp .ne 7, 3) := by decide +kernel
theorem dX3_value_56 : decode cX3_value 56 = .ok (.iload_n 1, 1) := by decide +kernel
theorem dX3_value_57 : decode cX3_value 57 = .ok (.goto 16, 3) := by decide +kernel
theorem dX3_value_60 : decode cX3_value 60 = .ok (.iload 5, 2) := by decide +kernel
theorem dX3_value_62 : decode cX3_value 62 = .ok (.bipush (-2), 2) := by decide +kernel
theorem dX3_value_64 : decode cX3_value 64 = .ok (.if_icmp .ne 7, 3) := by decide +kernel
theorem dX3_value_67 : decode cX3_value 67 = .ok (.iload_n 2, 1) := by decide +kernel
theorem dX3_value_68 : decode cX3_value 68 = .ok (.goto 5, 3) := by decide +kernel
theorem dX3_value_71 : decode cX3_value 71 = .ok (.iload 5, 2) := by decide +kernel
theorem dX3_value_73 : decode cX3_value 73 = .ok (.iastore, 1) := by decide +kernel
theorem dX3_value_74 : decode cX3_value 74 = .ok (.iinc 3 1, 3) := by decide +kernel
theorem dX3_value_77 : decode cX3_value 77 = .ok (.goto 77, 3) := by decide +kernel
theorem dX3_value_80 : decode cX3_value 80 = .ok (.iload 5, 2) := by decide +kernel
theorem dX3_value_82 : decode cX3_value 82 = .ok (.bipush (-3), 2) := by decide +kernel
theorem dX3_value_84 : decode cX3_value 84 = .ok (.if_icmp .ne 30, 3) := by decide +kernel
theorem dX3_value_87 : decode cX3_value 87 = .ok (.iload_n 3, 1) := by decide +kernel
theorem dX3_value_88 : decode cX3_value 88 = .ok (.iconst 1, 1) := by decide +kernel
theorem dX3_value_89 : decode cX3_value 89 = .ok (.if_icmp .ge 5, 3) := by decide +kernel
theorem dX3_value_92 : decode cX3_value 92 = .ok (.iconst 0, 1) := by decide +kernel
theorem dX3_value_93 : decode cX3_value 93 = .ok (.ireturn, 1) := by decide +kernel
theorem dX3_value_94 : decode cX3_value 94 = .ok (.aload_n 0, 1) := by decide +kernel
theorem dX3_value_95 : decode cX3_value 95 = .ok (.getfield 15, 3) := by decide +kernel
theorem dX3_value_98 : decode cX3_value 98 = .ok (.iload_n 3, 1) := by decide +kernel
theorem dX3_value_99 : decode cX3_value 99 = .ok (.iconst 1, 1) := by decide +kernel
theorem dX3_value_100 : decode cX3_value 100 = .ok (.isub, 1) := by decide +kernel
theorem dX3_value_101 : decode cX3_value 101 = .ok (.aload_n 0, 1) := by decide +kernel
theorem dX3_value_102 : decode cX3_value 102 = .ok (.getfield 15, 3) := by decide +kernel
theorem dX3_value_105 : decode cX3_value 105 = .ok (.iload_n 3, 1) := by decide +kernel
theorem dX3_value_106 : decode cX3_value 106 = .ok (.iconst 1, 1) := by decide +kernel
theorem dX3_value_107 : decode cX3_value 107 = .ok (.isub, 1) := by decide +kernel
theorem dX3_value_108 : decode cX3_value 108 = .ok (.iaload, 1) := by decide +kernel
theorem dX3_value_109 : decode cX3_value 109 = .ok (.ineg, 1) := by decide +kernel
theorem dX3_value_110 : decode cX3_value 110 = .ok (.iastore, 1) := by decide +kernel
theorem dX3_value_111 : decode cX3_value 111 = .ok (.goto 43, 3) := by decide +kernel
theorem dX3_value_114 : decode cX3_value 114 = .ok (.iload_n 3, 1) := by decide +kernel
theorem dX3_value_115 : decode cX3_value 115 = .ok (.iconst 2, 1) := by decide +kernel
theorem dX3_value_116 : decode cX3_value 116 = .ok (.if_icmp .ge 5, 3) := by decide +kernel
theorem dX3_value_119 : decode cX3_value 119 = .ok (.iconst 0, 1) := by decide +kernel
theorem dX3_value_120 : decode cX3_value 120 = .ok (.ireturn, 1) := by decide +kernel
theorem dX3_value_121 : decode cX3_value 121 = .ok (.iinc 3 (-1), 3) := by decide +kernel
theorem dX3_value_124 : decode cX3_value 124 = .ok (.aload_n 0, 1) := by decide +kernel
theorem dX3_value_125 : decode cX3_value 125 = .ok (.getfield 15, 3) := by decide +kernel
theorem dX3_value_128 : decode cX3_value 128 = .ok (.iload_n 3, 1) := by decide +kernel
theorem dX3_value_129 : decode cX3_value 129 = .ok (.iconst 1, 1) := by decide +kernel
theorem dX3_value_130 : decode cX3_value 130 = .ok (.isub, 1) := by decide +kernel
theorem dX3_value_131 : decode cX3_value 131 = .ok (.bipush (-3), 2) := by decide +kernel
theorem dX3_value_133 : decode cX3_value 133 = .ok (.iload 5, 2) := by decide +kernel
theorem dX3_value_135 : decode cX3_value 135 = .ok (.isub, 1) := by decide +kernel
theorem dX3_value_136 : decode cX3_value 136 = .ok (.aload_n 0, 1) := by decide +kernel
theorem dX3_value_137 : decode cX3_value 137 = .ok (.getfield 15, 3) := by decide +kernel
theorem dX3_value_140 : decode cX3_value 140 = .ok (.iload_n 3, 1) := by decide +kernel
theorem dX3_value_141 : decode cX3_value 141 = .ok (.iconst 1, 1) := by decide +kernel
theorem dX3_value_142 : decode cX3_value 142 = .ok (.isub, 1) := by decide +kernel
theorem dX3_value_143 : decode cX3_value 143 = .ok (.iaload, 1) := by decide +kernel
theorem dX3_value_144 : decode cX3_value 144 = .ok (.aload_n 0, 1) := by decide +kernel
theorem dX3_value_145 : decode cX3_value 145 = .ok (.getfield 15, 3) := by decide +kernel
theorem dX3_value_148 : decode cX3_value 148 = .ok (.iload_n 3, 1) := by decide +kernel
theorem dX3_value_149 : decode cX3_value 149 = .ok (.iaload, 1) := by decide +kernel
theorem dX3_value_150 : decode cX3_value 150 = .ok (.invokestatic 94, 3) := by decide +kernel
theorem dX3_value_153 : decode cX3_value 153 = .ok (.iastore, 1) := by decide +kernel
theorem dX3_value_154 : decode cX3_value 154 = .ok (.iinc 4 1, 3) := by decide +kernel
theorem dX3_value_157 : decode cX3_value 157 = .ok (.goto (-152), 3) := by decide +kernel
theorem dX3_value_160 : decode cX3_value 160 = .ok (.iload_n 3, 1) := by decide +kernel
theorem dX3_value_161 : decode cX3_value 161 = .ok (.iconst 1, 1) := by decide +kernel
theorem dX3_value_162 : decode cX3_value 162 = .ok (.if_icmp .ne 12, 3) := by decide +kernel
theorem dX3_value_165 : decode cX3_value 165 = .ok (.aload_n 0, 1) := by decide +kernel
theorem dX3_value_166 : decode cX3_value 166 = .ok (.getfield 15, 3) := by decide +kernel
theorem dX3_value_169 : decode cX3_value 169 = .ok (.iconst 0, 1) := by decide +kernel
theorem dX3_value_170 : decode cX3_value 170 = .ok (.iaload, 1) := by decide +kernel
theorem dX3_value_171 : decode cX3_value 171 = .ok (.goto 4, 3) := by decide +kernel
theorem dX3_value_174 : decode cX3_value 174 = .ok (.iconst 0, 1) := by decide +kernel
theorem dX3_value_175 : decode cX3_value 175 = .ok (.ireturn, 1) := by decide +kernel
set_option maxRecDepth 20000 in
theorem ggX3_value_X3_joined : GoodIn wsX3_value wsX3_joined := goodIn_r _ [7] rfl (by decide +kernel)
set_option maxRecDepth 20000 in
theorem gX3_value_X3_joined : GoodIn wsX3_value (va_wsS RX3 94 yX3_joined wsX3_joined) := goodIn_app (goodIn_of _ (by decide +kernel)) ggX3_value_X3_joined
set_option maxHeartbeats 4000000 in
set_option maxRecDepth 100000 in
theorem S_X3_value_11 (l : Launch) (D : va_G) (K : Nat → ClassId) (a : Nat → Nat) (G : gS) (p0 : Int32) (s0 : Int) (p1 : Int32) (s1 : Int) (e0 : p0.toInt = s0) (e1 : p1.toInt = s1) (hI : xI G) (sz : Nat) : Ki l yX3_value wsX3_value 2 62 0 0 D [.ref (a 11), .int p0, .int p1] (xW K a G) (tK K) sz (fun (r : Int32) (G' : gS) => (xI G') ∧ (gu_un xcd [2100] G G') ∧ ((gcOK (tkr (G 20) ((G 11 1).toInt).toNat) → r.toInt = (eV p0 p1 (tkr (G 20) ((G 11 1).toInt).toNat)).toInt))) (fun (G' : gS) => (xW K a G')) (fun _ => (tK K)) := by
  unfold Ki
  refine g_ofW (cc := cX3_value) (lv := [(0, .ref (a 11)), (1, .int p0), (2, .int p1)]) (by decide) rfl (Nat.le_of_ble_eq_true rfl) rfl ?_
  intro p e s m args below meth c A Q hA hQ F hr hnm
  have hts := F.2.2.2.2.1
  have w_0 : (Cond.fieldLink RX3 21 "QuietCut$Formula" "length" "I").before args s = true := hts _ (List.mem_of_getElem? (i := 1) rfl)
  have i_X3 : ∀ w ∈ u_ws RX3 TX3 9, w ∈ wsX3_value := fun _ h => List.mem_cons_of_mem _ (List.mem_append_right _ h)
  have w_1 : (Cond.fieldLink RX3 15 "QuietCut$Formula" "stack" "[I").before args s = true := hts _ (List.mem_of_getElem? (i := 3) rfl)
  have w_2 : (Cond.fieldLink RX3 11 "QuietCut$Formula" "codes" "[I").before args s = true := hts _ (List.mem_of_getElem? (i := 2) rfl)
  have rg0 : -2147483648 ≤ s0 ∧ s0 ≤ 2147483647 := e0 ▸ ti_rng p0
  have rg1 : -2147483648 ≤ s1 ∧ s1 ≤ 2147483647 := e1 ▸ ti_rng p1
  have b1 : (0 : Int) ≤ (G 11 1).toInt ∧ (G 11 1).toInt ≤ 80 := hI 11 1
  have J_5 : ∀ (fuel : Nat) (x5_3 : Int32) (x5_4 : Int32) (Gj5 : gS), (2147483647 - x5_4.toInt).toNat < fuel → (0 ≤ x5_3.toInt ∧ x5_3.toInt ≤ 12) → (0 ≤ x5_4.toInt ∧ x5_4.toInt ≤ 80) → (xI Gj5) → (gu_un xcd [2100] G Gj5) → (gcOK (tkr (G 20) ((G 11 1).toInt).toNat) → skr (Gj5 21) (x5_3.toInt).toNat = eS p0 p1 (tkr (G 20) (x5_4.toInt).toNat)) → ((x5_4.toInt ≤ (G 11 1).toInt)) → gG p l e (gR 2 0 0 62) s m args below meth c D A 6 Q 0 0 (xW K a Gj5) (tK K) [(0, .ref (a 11)), (1, .int p0), (2, .int p1), (3, .int x5_3), (4, .int x5_4)] 5 [] := by
    intro fuel
    induction fuel with
    | zero => intro x5_3 x5_4 Gj5 hm; exact absurd hm (Nat.not_lt_zero _)
    | succ fuel_5 ih_5 =>
      intro x5_3 x5_4 Gj5 hm_5 h5_3 h5_4 jI5 jU5 ev il
      refine g_iload F 4 dX3_value_5 rfl ?_
      refine g_aload_n F 0 dX3_value_7 rfl rfl ?_
      refine xg_11_1 F i_X3 w_0 dX3_value_8 (G 11 1) (jU5 11 1 (by decide)) ?_
      refine v_icmp_ge F 160 dX3_value_11 (by decide) x5_4.toInt (G 11 1).toInt rfl rfl (fun c2 => ?_) (fun c2 => ?_)
      · refine g_iload_n F 3 dX3_value_160 rfl rfl ?_
        refine g_iconst F 1 dX3_value_161 (by decide) ?_
        refine v_icmp_ne F 174 dX3_value_162 (by decide) x5_3.toInt 1 rfl rfl (fun c3 => ?_) (fun c3 => ?_)
        · refine g_iconst F 0 dX3_value_174 (by decide) ?_
          exact u_iret F hA hQ hr Gj5 (⟨jI5, (gu_un.tr gu_un.rf (gu_un.su jU5 rfl)), (fun hg => by have h9 := vFin hg (by omega) (i := x5_4.toInt) (by omega) (ev hg); first | (rw [h9.2]; done) | (have h8 := h9.1; exfalso; omega))⟩) rfl rfl dX3_value_175
        · refine g_aload_n F 0 dX3_value_165 rfl rfl ?_
          refine xg_11_2 F i_X3 w_1 dX3_value_166 ?_
          refine g_iconst F 0 dX3_value_169 (by decide) ?_
          refine u1_iald F 21 0 xc_21 rfl 0 rfl (by decide) (by decide) dX3_value_170 (Gj5 21 0) (rfl) ?_
          refine g_goto F 175 dX3_value_171 (by decide) ?_
          exact u_iret F hA hQ hr Gj5 (⟨jI5, (gu_un.tr gu_un.rf (gu_un.su jU5 rfl)), (fun hg => by have h9 := vFin hg (by omega) (i := x5_4.toInt) (by omega) (ev hg); first | (rw [h9.2]; done) | (have h8 := h9.1; exfalso; omega))⟩) rfl rfl dX3_value_175
      · refine g_iload F 4 dX3_value_14 rfl ?_
        refine g_bipush F 80 dX3_value_16 (by decide) ?_
        refine v_icmp_ge F 160 dX3_value_18 (by decide) x5_4.toInt 80 rfl rfl (fun c4 => absurd c4 (by omega)) (fun c4 => ?_)
        refine g_aload_n F 0 dX3_value_21 rfl rfl ?_
        refine xg_11_0 F i_X3 w_2 dX3_value_22 ?_
        refine g_iload F 4 dX3_value_25 rfl ?_
        refine u1_iald F 20 0 xc_20 rfl x5_4.toInt rfl (by omega) (by omega) dX3_value_27 ((G 20) (x5_4.toInt).toNat) (congrFun ((show Gj5 20 = G 20 from funext fun k_ => jU5 20 k_ (show (2000 : Nat) ∉ ([2100] : List Nat) by decide))) _) ?_
        refine g_istore F [(5, .int ((G 20) (x5_4.toInt).toNat)), (0, .ref (a 11)), (1, .int p0), (2, .int p1), (3, .int x5_3), (4, .int x5_4)] dX3_value_28 (by decide) rfl ?_
        refine g_iload F 0 dX3_value_30 rfl ?_
        refine g_bipush F (-2) dX3_value_32 (by decide) ?_
        refine v_icmp_lt F 80 dX3_value_34 (by decide) ((G 20) (x5_4.toInt).toNat).toInt (-2) rfl rfl (fun c5 => ?_) (fun c5 => ?_)
        · refine g_iload F 0 dX3_value_80 rfl ?_
          refine g_bipush F (-3) dX3_value_82 (by decide) ?_
          have b6 := ti_rng ((G 20) (x5_4.toInt).toNat)
          refine v_icmp_ne F 114 dX3_value_84 (by decide) ((G 20) (x5_4.toInt).toNat).toInt (-3) rfl rfl (fun c7 => ?_) (fun c7 => ?_)
          · refine g_iload_n F 4 dX3_value_114 rfl rfl ?_
            refine g_iconst F 2 dX3_value_115 (by decide) ?_
            refine v_icmp_ge F 121 dX3_value_116 (by decide) x5_3.toInt 2 rfl rfl (fun c8 => ?_) (fun c8 => ?_)
            · refine u_iinc F (fun v_ => [(3, .int v_), (5, .int ((G 20) (x5_4.toInt).toNat)), (0, .ref (a 11)), (1, .int p0), (2, .int p1), (4, .int x5_4)]) dX3_value_121 (j := 4) rfl x5_3.toInt (-1) rfl rfl (by omega) (by omega) (by decide) (fun _ => rfl) (fun y9 ey9 => ?_)
              refine g_aload_n F 2 dX3_value_124 rfl rfl ?_
              refine xg_11_2 F i_X3 w_1 dX3_value_125 ?_
              refine g_iload_n F 0 dX3_value_128 rfl rfl ?_
              refine g_iconst F 1 dX3_value_129 (by decide) ?_
              refine u_isub F dX3_value_130 y9.toInt 1 rfl rfl (by omega) (by omega) (fun y10 ey10 => ?_)
              refine g_bipush F (-3) dX3_value_131 (by decide) ?_
              refine g_iload F 1 dX3_value_133 rfl ?_
              refine u_isub F dX3_value_135 (-3) ((G 20) (x5_4.toInt).toNat).toInt rfl rfl (by omega) (by omega) (fun y11 ey11 => ?_)
              refine g_aload_n F 2 dX3_value_136 rfl rfl ?_
              refine xg_11_2 F i_X3 w_1 dX3_value_137 ?_
              refine g_iload_n F 0 dX3_value_140 rfl rfl ?_
              refine g_iconst F 1 dX3_value_141 (by decide) ?_
              refine u_isub F dX3_value_142 y9.toInt 1 rfl rfl (by omega) (by omega) (fun y12 ey12 => ?_)
              refine u1_iald F 21 0 xc_21 rfl y12.toInt rfl (by omega) (by omega) dX3_value_143 ((Gj5 21) ((y9.toInt - 1)).toNat) (by rw [show y12.toInt = (y9.toInt - 1) by omega] <;> rfl) ?_
              refine g_aload_n F 2 dX3_value_144 rfl rfl ?_
              refine xg_11_2 F i_X3 w_1 dX3_value_145 ?_
              refine g_iload_n F 0 dX3_value_148 rfl rfl ?_
              refine u1_iald F 21 0 xc_21 rfl y9.toInt rfl (by omega) (by omega) dX3_value_149 ((Gj5 21) (y9.toInt).toNat) (rfl) ?_
              refine u_call0 (k := 0) (n := 0) (As := [.int y11, .int ((Gj5 21) ((y9.toInt - 1)).toNat), .int ((Gj5 21) (y9.toInt).toNat)]) (st := [.int y10, .ref (a 21)]) F (fun sz => S_X3_joined l D y11 y11.toInt ((Gj5 21) ((y9.toInt - 1)).toNat) ((Gj5 21) ((y9.toInt - 1)).toNat).toInt ((Gj5 21) (y9.toInt).toNat) ((Gj5 21) (y9.toInt).toNat).toInt rfl rfl rfl sz) (va_cwS 3 hts gX3_value_X3_joined rfl rfl rfl (by decide +kernel) ⟨Nat.le_of_ble_eq_true rfl, Nat.le_of_ble_eq_true rfl⟩) rfl (Nat.le_of_ble_eq_true rfl) ⟨Nat.zero_le _, Nat.zero_le _⟩ dX3_value_150 (fun r13 _ hw14 => ?_)
              have q16 : (r13.toInt = (eJ y11.toInt ((Gj5 21) ((y9.toInt - 1)).toNat) ((Gj5 21) (y9.toInt).toNat)).toInt) := hw14
              clear hw14
              refine u_iast F 21 0 xc_21 rfl y10.toInt rfl (by omega) (by omega) (xW K a (gu_up Gj5 21 (y10.toInt).toNat r13)) (xs_21 _) dX3_value_153 ?_
              refine u_iinc F (fun v_ => [(4, .int v_), (3, .int y9), (5, .int ((G 20) (x5_4.toInt).toNat)), (0, .ref (a 11)), (1, .int p0), (2, .int p1)]) dX3_value_154 (j := 5) rfl x5_4.toInt 1 rfl rfl (by omega) (by omega) (by decide) (fun _ => rfl) (fun y17 ey17 => ?_)
              refine g_goto F 5 dX3_value_157 (by decide) ?_
              refine g_locals [(0, .ref (a 11)), (1, .int p0), (2, .int p1), (3, .int y9), (4, .int y17)] [3, 4, 5, 1, 0] rfl ?_
              exact ih_5 y9 y17 (gu_up Gj5 21 (y10.toInt).toNat r13) (by omega) (by have h9 := ti_rng y9; omega) (by have h9 := ti_rng y17; omega) (gu_I.up (j := 21) (k := (y10.toInt).toNat) (v := r13) jI5 (ti_rng _).1 (ti_rng _).2) (gu_un.up (j := 21) (k := (y10.toInt).toNat) (v := r13) (gu_un.tr gu_un.rf (gu_un.su jU5 rfl)) (show (2100 : Nat) ∈ ([2100] : List Nat) by decide)) (fun hg => by rw [tkr_nx (f := G 20) (i := x5_4.toInt) (by omega) (by omega)]; have hsg := vSg (vAt hg (i := x5_4.toInt) (by omega) (by omega)) (by omega); exact vJoin (ev hg) (by omega) (show (gu_up Gj5 21 (y10.toInt).toNat r13) 21 = (upd (Gj5 21) (y10.toInt).toNat r13) from rfl) q16 (by omega) (by omega) (by omega) (by omega) (by omega) (by omega)) (by have h9 := (show (0 : Int) ≤ (G 11 1).toInt ∧ (G 11 1).toInt ≤ 80 from hI 11 1); (first | omega | (simp only [Int32.reduceToInt, true_and, and_true, ne_eq, not_true_eq_false, false_and, or_false, false_or, true_or, or_true, false_implies] <;> omega)))
            · refine g_iconst F 0 dX3_value_119 (by decide) ?_
              exact u_iret F hA hQ hr Gj5 (⟨jI5, (gu_un.tr gu_un.rf (gu_un.su jU5 rfl)), (fun hg => (vE3 hg (i := x5_4.toInt) (by omega) (by omega) (ev hg) (by omega) (by omega)).elim)⟩) rfl rfl dX3_value_120
          · refine g_iload_n F 4 dX3_value_87 rfl rfl ?_
            refine g_iconst F 1 dX3_value_88 (by decide) ?_
            refine v_icmp_ge F 94 dX3_value_89 (by decide) x5_3.toInt 1 rfl rfl (fun c18 => ?_) (fun c18 => ?_)
            · refine g_aload_n F 1 dX3_value_94 rfl rfl ?_
              refine xg_11_2 F i_X3 w_1 dX3_value_95 ?_
              refine g_iload_n F 4 dX3_value_98 rfl rfl ?_
              refine g_iconst F 1 dX3_value_99 (by decide) ?_
              refine u_isub F dX3_value_100 x5_3.toInt 1 rfl rfl (by omega) (by omega) (fun y19 ey19 => ?_)
              refine g_aload_n F 1 dX3_value_101 rfl rfl ?_
              refine xg_11_2 F i_X3 w_1 dX3_value_102 ?_
              refine g_iload_n F 4 dX3_value_105 rfl rfl ?_
              refine g_iconst F 1 dX3_value_106 (by decide) ?_
              refine u_isub F dX3_value_107 x5_3.toInt 1 rfl rfl (by omega) (by omega) (fun y20 ey20 => ?_)
              refine u1_iald F 21 0 xc_21 rfl y20.toInt rfl (by omega) (by omega) dX3_value_108 ((Gj5 21) ((x5_3.toInt - 1)).toNat) (by rw [show y20.toInt = (x5_3.toInt - 1) by omega] <;> rfl) ?_
              refine g_ineg F dX3_value_109 ?_
              have ng22 : -2147483648 < ((Gj5 21) ((x5_3.toInt - 1)).toNat).toInt → ((-((Gj5 21) ((x5_3.toInt - 1)).toNat)) : Int32).toInt = -((Gj5 21) ((x5_3.toInt - 1)).toNat).toInt := fun h9 => ti_neg rfl h9
              refine u_iast F 21 0 xc_21 rfl y19.toInt rfl (by omega) (by omega) (xW K a (gu_up Gj5 21 (y19.toInt).toNat (-((Gj5 21) ((x5_3.toInt - 1)).toNat)))) (xs_21 _) dX3_value_110 ?_
              refine g_goto F 154 dX3_value_111 (by decide) ?_
              refine u_iinc F (fun v_ => [(4, .int v_), (5, .int ((G 20) (x5_4.toInt).toNat)), (0, .ref (a 11)), (1, .int p0), (2, .int p1), (3, .int x5_3)]) dX3_value_154 (j := 5) rfl x5_4.toInt 1 rfl rfl (by omega) (by omega) (by decide) (fun _ => rfl) (fun y23 ey23 => ?_)
              refine g_goto F 5 dX3_value_157 (by decide) ?_
              refine g_locals [(0, .ref (a 11)), (1, .int p0), (2, .int p1), (3, .int x5_3), (4, .int y23)] [2, 3, 4, 5, 0] rfl ?_
              exact ih_5 x5_3 y23 (gu_up Gj5 21 (y19.toInt).toNat (-((Gj5 21) ((x5_3.toInt - 1)).toNat))) (by omega) (by have h9 := ti_rng x5_3; omega) (by have h9 := ti_rng y23; omega) (gu_I.up (j := 21) (k := (y19.toInt).toNat) (v := (-((Gj5 21) ((x5_3.toInt - 1)).toNat))) jI5 (ti_rng _).1 (ti_rng _).2) (gu_un.up (j := 21) (k := (y19.toInt).toNat) (v := (-((Gj5 21) ((x5_3.toInt - 1)).toNat))) (gu_un.tr gu_un.rf (gu_un.su jU5 rfl)) (show (2100 : Nat) ∈ ([2100] : List Nat) by decide)) (fun hg => by rw [tkr_nx (f := G 20) (i := x5_4.toInt) (by omega) (by omega)]; exact vNeg (ev hg) (by omega) (show (gu_up Gj5 21 (y19.toInt).toNat (-((Gj5 21) ((x5_3.toInt - 1)).toNat))) 21 = (upd (Gj5 21) (y19.toInt).toNat (-((Gj5 21) ((x5_3.toInt - 1)).toNat))) from rfl) (by omega) (by omega) (by omega)) (by have h9 := (show (0 : Int) ≤ (G 11 1).toInt ∧ (G 11 1).toInt ≤ 80 from hI 11 1); (first | omega | (simp only [Int32.reduceToInt, true_and, and_true, ne_eq, not_true_eq_false, false_and, or_false, false_or, true_or, or_true, false_implies] <;> omega)))
            · refine g_iconst F 0 dX3_value_92 (by decide) ?_
              exact u_iret F hA hQ hr Gj5 (⟨jI5, (gu_un.tr gu_un.rf (gu_un.su jU5 rfl)), (fun hg => (vE2 hg (i := x5_4.toInt) (by omega) (by omega) (ev hg) (by omega) (by omega)).elim)⟩) rfl rfl dX3_value_93
        · refine g_iload_n F 4 dX3_value_37 rfl rfl ?_
          refine g_bipush F 12 dX3_value_38 (by decide) ?_
          refine v_icmp_lt F 45 dX3_value_40 (by decide) x5_3.toInt 12 rfl rfl (fun c24 => ?_) (fun c24 => ?_)
          · refine g_aload_n F 1 dX3_value_45 rfl rfl ?_
            refine xg_11_2 F i_X3 w_1 dX3_value_46 ?_
            refine g_iload_n F 4 dX3_value_49 rfl rfl ?_
            refine g_iload F 0 dX3_value_50 rfl ?_
            refine g_iconst F (-1) dX3_value_52 (by decide) ?_
            have b25 := ti_rng ((G 20) (x5_4.toInt).toNat)
            refine v_icmp_ne F 60 dX3_value_53 (by decide) ((G 20) (x5_4.toInt).toNat).toInt (-1) rfl rfl (fun c26 => ?_) (fun c26 => ?_)
            · refine g_iload F 0 dX3_value_60 rfl ?_
              refine g_bipush F (-2) dX3_value_62 (by decide) ?_
              refine v_icmp_ne F 71 dX3_value_64 (by decide) ((G 20) (x5_4.toInt).toNat).toInt (-2) rfl rfl (fun c27 => ?_) (fun c27 => ?_)
              · refine g_iload F 0 dX3_value_71 rfl ?_
                refine u_iast F 21 0 xc_21 rfl x5_3.toInt rfl (by omega) (by omega) (xW K a (gu_up Gj5 21 (x5_3.toInt).toNat ((G 20) (x5_4.toInt).toNat))) (xs_21 _) dX3_value_73 ?_
                refine u_iinc F (fun v_ => [(3, .int v_), (5, .int ((G 20) (x5_4.toInt).toNat)), (0, .ref (a 11)), (1, .int p0), (2, .int p1), (4, .int x5_4)]) dX3_value_74 (j := 4) rfl x5_3.toInt 1 rfl rfl (by omega) (by omega) (by decide) (fun _ => rfl) (fun y28 ey28 => ?_)
                refine g_goto F 154 dX3_value_77 (by decide) ?_
                refine u_iinc F (fun v_ => [(4, .int v_), (3, .int y28), (5, .int ((G 20) (x5_4.toInt).toNat)), (0, .ref (a 11)), (1, .int p0), (2, .int p1)]) dX3_value_154 (j := 5) rfl x5_4.toInt 1 rfl rfl (by omega) (by omega) (by decide) (fun _ => rfl) (fun y29 ey29 => ?_)
                refine g_goto F 5 dX3_value_157 (by decide) ?_
                refine g_locals [(0, .ref (a 11)), (1, .int p0), (2, .int p1), (3, .int y28), (4, .int y29)] [3, 4, 5, 1, 0] rfl ?_
                exact ih_5 y28 y29 (gu_up Gj5 21 (x5_3.toInt).toNat ((G 20) (x5_4.toInt).toNat)) (by omega) (by have h9 := ti_rng y28; omega) (by have h9 := ti_rng y29; omega) (gu_I.up (j := 21) (k := (x5_3.toInt).toNat) (v := ((G 20) (x5_4.toInt).toNat)) jI5 (ti_rng _).1 (ti_rng _).2) (gu_un.up (j := 21) (k := (x5_3.toInt).toNat) (v := ((G 20) (x5_4.toInt).toNat)) (gu_un.tr gu_un.rf (gu_un.su jU5 rfl)) (show (2100 : Nat) ∈ ([2100] : List Nat) by decide)) (fun hg => by rw [tkr_nx (f := G 20) (i := x5_4.toInt) (by omega) (by omega)]; exact vPush (ev hg) (by omega) (by omega) (show (gu_up Gj5 21 (x5_3.toInt).toNat ((G 20) (x5_4.toInt).toNat)) 21 = (upd (Gj5 21) (x5_3.toInt).toNat ((G 20) (x5_4.toInt).toNat)) from rfl) (by first | exact eP_1 (by omega) | exact eP_2 (by omega) | exact eP_3 (by omega) (by omega) (by omega)) (by omega)) (by have h9 := (show (0 : Int) ≤ (G 11 1).toInt ∧ (G 11 1).toInt ≤ 80 from hI 11 1); (first | omega | (simp only [Int32.reduceToInt, true_and, and_true, ne_eq, not_true_eq_false, false_and, or_false, false_or, true_or, or_true, false_implies] <;> omega)))
              · refine g_iload_n F 3 dX3_value_67 rfl rfl ?_
                refine g_goto F 73 dX3_value_68 (by decide) ?_
                refine u_iast F 21 0 xc_21 rfl x5_3.toInt rfl (by omega) (by omega) (xW K a (gu_up Gj5 21 (x5_3.toInt).toNat p1)) (xs_21 _) dX3_value_73 ?_
                refine u_iinc F (fun v_ => [(3, .int v_), (5, .int ((G 20) (x5_4.toInt).toNat)), (0, .ref (a 11)), (1, .int p0), (2, .int p1), (4, .int x5_4)]) dX3_value_74 (j := 4) rfl x5_3.toInt 1 rfl rfl (by omega) (by omega) (by decide) (fun _ => rfl) (fun y30 ey30 => ?_)
                refine g_goto F 154 dX3_value_77 (by decide) ?_
                refine u_iinc F (fun v_ => [(4, .int v_), (3, .int y30), (5, .int ((G 20) (x5_4.toInt).toNat)), (0, .ref (a 11)), (1, .int p0), (2, .int p1)]) dX3_value_154 (j := 5) rfl x5_4.toInt 1 rfl rfl (by omega) (by omega) (by decide) (fun _ => rfl) (fun y31 ey31 => ?_)
                refine g_goto F 5 dX3_value_157 (by decide) ?_
                refine g_locals [(0, .ref (a 11)), (1, .int p0), (2, .int p1), (3, .int y30), (4, .int y31)] [3, 4, 5, 1, 0] rfl ?_
                exact ih_5 y30 y31 (gu_up Gj5 21 (x5_3.toInt).toNat p1) (by omega) (by have h9 := ti_rng y30; omega) (by have h9 := ti_rng y31; omega) (gu_I.up (j := 21) (k := (x5_3.toInt).toNat) (v := p1) jI5 (ti_rng _).1 (ti_rng _).2) (gu_un.up (j := 21) (k := (x5_3.toInt).toNat) (v := p1) (gu_un.tr gu_un.rf (gu_un.su jU5 rfl)) (show (2100 : Nat) ∈ ([2100] : List Nat) by decide)) (fun hg => by rw [tkr_nx (f := G 20) (i := x5_4.toInt) (by omega) (by omega)]; exact vPush (ev hg) (by omega) (by omega) (show (gu_up Gj5 21 (x5_3.toInt).toNat p1) 21 = (upd (Gj5 21) (x5_3.toInt).toNat p1) from rfl) (by first | exact eP_1 (by omega) | exact eP_2 (by omega) | exact eP_3 (by omega) (by omega) (by omega)) (by omega)) (by have h9 := (show (0 : Int) ≤ (G 11 1).toInt ∧ (G 11 1).toInt ≤ 80 from hI 11 1); (first | omega | (simp only [Int32.reduceToInt, true_and, and_true, ne_eq, not_true_eq_false, false_and, or_false, false_or, true_or, or_true, false_implies] <;> omega)))
            · refine g_iload_n F 2 dX3_value_56 rfl rfl ?_
              refine g_goto F 73 dX3_value_57 (by decide) ?_
              refine u_iast F 21 0 xc_21 rfl x5_3.toInt rfl (by omega) (by omega) (xW K a (gu_up Gj5 21 (x5_3.toInt).toNat p0)) (xs_21 _) dX3_value_73 ?_
              refine u_iinc F (fun v_ => [(3, .int v_), (5, .int ((G 20) (x5_4.toInt).toNat)), (0, .ref (a 11)), (1, .int p0), (2, .int p1), (4, .int x5_4)]) dX3_value_74 (j := 4) rfl x5_3.toInt 1 rfl rfl (by omega) (by omega) (by decide) (fun _ => rfl) (fun y32 ey32 => ?_)
              refine g_goto F 154 dX3_value_77 (by decide) ?_
              refine u_iinc F (fun v_ => [(4, .int v_), (3, .int y32), (5, .int ((G 20) (x5_4.toInt).toNat)), (0, .ref (a 11)), (1, .int p0), (2, .int p1)]) dX3_value_154 (j := 5) rfl x5_4.toInt 1 rfl rfl (by omega) (by omega) (by decide) (fun _ => rfl) (fun y33 ey33 => ?_)
              refine g_goto F 5 dX3_value_157 (by decide) ?_
              refine g_locals [(0, .ref (a 11)), (1, .int p0), (2, .int p1), (3, .int y32), (4, .int y33)] [3, 4, 5, 1, 0] rfl ?_
              exact ih_5 y32 y33 (gu_up Gj5 21 (x5_3.toInt).toNat p0) (by omega) (by have h9 := ti_rng y32; omega) (by have h9 := ti_rng y33; omega) (gu_I.up (j := 21) (k := (x5_3.toInt).toNat) (v := p0) jI5 (ti_rng _).1 (ti_rng _).2) (gu_un.up (j := 21) (k := (x5_3.toInt).toNat) (v := p0) (gu_un.tr gu_un.rf (gu_un.su jU5 rfl)) (show (2100 : Nat) ∈ ([2100] : List Nat) by decide)) (fun hg => by rw [tkr_nx (f := G 20) (i := x5_4.toInt) (by omega) (by omega)]; exact vPush (ev hg) (by omega) (by omega) (show (gu_up Gj5 21 (x5_3.toInt).toNat p0) 21 = (upd (Gj5 21) (x5_3.toInt).toNat p0) from rfl) (by first | exact eP_1 (by omega) | exact eP_2 (by omega) | exact eP_3 (by omega) (by omega) (by omega)) (by omega)) (by have h9 := (show (0 : Int) ≤ (G 11 1).toInt ∧ (G 11 1).toInt ≤ 80 from hI 11 1); (first | omega | (simp only [Int32.reduceToInt, true_and, and_true, ne_eq, not_true_eq_false, false_and, or_false, false_or, true_or, or_true, false_implies] <;> omega)))
          · refine g_iconst F 0 dX3_value_43 (by decide) ?_
            exact u_iret F hA hQ hr Gj5 (⟨jI5, (gu_un.tr gu_un.rf (gu_un.su jU5 rfl)), (fun hg => (vE1 hg (i := x5_4.toInt) (by omega) (by omega) (ev hg) (by omega) (by omega)).elim)⟩) rfl rfl dX3_value_44
  refine g_iconst F 0 dX3_value_0 (by decide) ?_
  refine g_istore_n F [(3, .int 0), (0, .ref (a 11)), (1, .int p0), (2, .int p1)] dX3_value_1 rfl (by decide) rfl ?_
  refine g_iconst F 0 dX3_value_2 (by decide) ?_
  refine g_istore F [(4, .int 0), (3, .int 0), (0, .ref (a 11)), (1, .int p0), (2, .int p1)] dX3_value_3 (by decide) rfl ?_
  refine g_locals [(0, .ref (a 11)), (1, .int p0), (2, .int p1), (3, .int 0), (4, .int 0)] [2, 3, 4, 1, 0] rfl ?_
  exact J_5 _ 0 0 G (Nat.lt_succ_self _) (by decide) (by decide) hI gu_un.rf (fun _ => rfl) (by have h9 := (show (0 : Int) ≤ (G 11 1).toInt ∧ (G 11 1).toInt ≤ 80 from hI 11 1); (first | omega | (simp only [Int32.reduceToInt, true_and, and_true, ne_eq, not_true_eq_false, false_and, or_false, false_or, true_or, or_true, false_implies] <;> omega)))


set_option maxHeartbeats 4000000 in
set_option maxRecDepth 100000 in
theorem S_X3_value_13 (l : Launch) (D : va_G) (K : Nat → ClassId) (a : Nat → Nat) (G : gS) (p0 : Int32) (s0 : Int) (p1 : Int32) (s1 : Int) (e0 : p0.toInt = s0) (e1 : p1.toInt = s1) (hI : xI G) (sz : Nat) : Ki l yX3_value wsX3_value 2 62 0 0 D [.ref (a 13), .int p0, .int p1] (xW K a G) (tK K) sz (fun (r : Int32) (G' : gS) => (xI G') ∧ (gu_un xcd [2700] G G') ∧ ((gcOK (tkr (G 26) ((G 13 1).toInt).toNat) → r.toInt = (eV p0 p1 (tkr (G 26) ((G 13 1).toInt).toNat)).toInt))) (fun (G' : gS) => (xW K a G')) (fun _ => (tK K)) := by
  unfold Ki
  refine g_ofW (cc := cX3_value) (lv := [(0, .ref (a 13)), (1, .int p0), (2, .int p1)]) (by decide) rfl (Nat.le_of_ble_eq_true rfl) rfl ?_
  intro p e s m args below meth c A Q hA hQ F hr hnm
  have hts := F.2.2.2.2.1
  have w_0 : (Cond.fieldLink RX3 21 "QuietCut$Formula" "length" "I").before args s = true := hts _ (List.mem_of_getElem? (i := 1) rfl)
  have i_X3 : ∀ w ∈ u_ws RX3 TX3 9, w ∈ wsX3_value := fun _ h => List.mem_cons_of_mem _ (List.mem_append_right _ h)
  have w_1 : (Cond.fieldLink RX3 15 "QuietCut$Formula" "stack" "[I").before args s = true := hts _ (List.mem_of_getElem? (i := 3) rfl)
  have w_2 : (Cond.fieldLink RX3 11 "QuietCut$Formula" "codes" "[I").before args s = true := hts _ (List.mem_of_getElem? (i := 2) rfl)
  have rg0 : -2147483648 ≤ s0 ∧ s0 ≤ 2147483647 := e0 ▸ ti_rng p0
  have rg1 : -2147483648 ≤ s1 ∧ s1 ≤ 2147483647 := e1 ▸ ti_rng p1
  have b1 : (0 : Int) ≤ (G 13 1).toInt ∧ (G 13 1).toInt ≤ 80 := hI 13 1
  have J_5 : ∀ (fuel : Nat) (x5_3 : Int32) (x5_4 : Int32) (Gj5 : gS), (2147483647 - x5_4.toInt).toNat < fuel → (0 ≤ x5_3.toInt ∧ x5_3.toInt ≤ 12) → (0 ≤ x5_4.toInt ∧ x5_4.toInt ≤ 80) → (xI Gj5) → (gu_un xcd [2700] G Gj5) → (gcOK (tkr (G 26) ((G 13 1).toInt).toNat) → skr (Gj5 27) (x5_3.toInt).toNat = eS p0 p1 (tkr (G 26) (x5_4.toInt).toNat)) → ((x5_4.toInt ≤ (G 13 1).toInt)) → gG p l e (gR 2 0 0 62) s m args below meth c D A 6 Q 0 0 (xW K a Gj5) (tK K) [(0, .ref (a 13)), (1, .int p0), (2, .int p1), (3, .int x5_3), (4, .int x5_4)] 5 [] := by
    intro fuel
    induction fuel with
    | zero => intro x5_3 x5_4 Gj5 hm; exact absurd hm (Nat.not_lt_zero _)
    | succ fuel_5 ih_5 =>
      intro x5_3 x5_4 Gj5 hm_5 h5_3 h5_4 jI5 jU5 ev il
      refine g_iload F 4 dX3_value_5 rfl ?_
      refine g_aload_n F 0 dX3_value_7 rfl rfl ?_
      refine xg_13_1 F i_X3 w_0 dX3_value_8 (G 13 1) (jU5 13 1 (by decide)) ?_
      refine v_icmp_ge F 160 dX3_value_11 (by decide) x5_4.toInt (G 13 1).toInt rfl rfl (fun c2 => ?_) (fun c2 => ?_)
      · refine g_iload_n F 3 dX3_value_160 rfl rfl ?_
        refine g_iconst F 1 dX3_value_161 (by decide) ?_
        refine v_icmp_ne F 174 dX3_value_162 (by decide) x5_3.toInt 1 rfl rfl (fun c3 => ?_) (fun c3 => ?_)
        · refine g_iconst F 0 dX3_value_174 (by decide) ?_
          exact u_iret F hA hQ hr Gj5 (⟨jI5, (gu_un.tr gu_un.rf (gu_un.su jU5 rfl)), (fun hg => by have h9 := vFin hg (by omega) (i := x5_4.toInt) (by omega) (ev hg); first | (rw [h9.2]; done) | (have h8 := h9.1; exfalso; omega))⟩) rfl rfl dX3_value_175
        · refine g_aload_n F 0 dX3_value_165 rfl rfl ?_
          refine xg_13_2 F i_X3 w_1 dX3_value_166 ?_
          refine g_iconst F 0 dX3_value_169 (by decide) ?_
          refine u1_iald F 27 0 xc_27 rfl 0 rfl (by decide) (by decide) dX3_value_170 (Gj5 27 0) (rfl) ?_
          refine g_goto F 175 dX3_value_171 (by decide) ?_
          exact u_iret F hA hQ hr Gj5 (⟨jI5, (gu_un.tr gu_un.rf (gu_un.su jU5 rfl)), (fun hg => by have h9 := vFin hg (by omega) (i := x5_4.toInt) (by omega) (ev hg); first | (rw [h9.2]; done) | (have h8 := h9.1; exfalso; omega))⟩) rfl rfl dX3_value_175
      · refine g_iload F 4 dX3_value_14 rfl ?_
        refine g_bipush F 80 dX3_value_16 (by decide) ?_
        refine v_icmp_ge F 160 dX3_value_18 (by decide) x5_4.toInt 80 rfl rfl (fun c4 => absurd c4 (by omega)) (fun c4 => ?_)
        refine g_aload_n F 0 dX3_value_21 rfl rfl ?_
        refine xg_13_0 F i_X3 w_2 dX3_value_22 ?_
        refine g_iload F 4 dX3_value_25 rfl ?_
        refine u1_iald F 26 0 xc_26 rfl x5_4.toInt rfl (by omega) (by omega) dX3_value_27 ((G 26) (x5_4.toInt).toNat) (congrFun ((show Gj5 26 = G 26 from funext fun k_ => jU5 26 k_ (show (2600 : Nat) ∉ ([2700] : List Nat) by decide))) _) ?_
        refine g_istore F [(5, .int ((G 26) (x5_4.toInt).toNat)), (0, .ref (a 13)), (1, .int p0), (2, .int p1), (3, .int x5_3), (4, .int x5_4)] dX3_value_28 (by decide) rfl ?_
        refine g_iload F 0 dX3_value_30 rfl ?_
        refine g_bipush F (-2) dX3_value_32 (by decide) ?_
        refine v_icmp_lt F 80 dX3_value_34 (by decide) ((G 26) (x5_4.toInt).toNat).toInt (-2) rfl rfl (fun c5 => ?_) (fun c5 => ?_)
        · refine g_iload F 0 dX3_value_80 rfl ?_
          refine g_bipush F (-3) dX3_value_82 (by decide) ?_
          have b6 := ti_rng ((G 26) (x5_4.toInt).toNat)
          refine v_icmp_ne F 114 dX3_value_84 (by decide) ((G 26) (x5_4.toInt).toNat).toInt (-3) rfl rfl (fun c7 => ?_) (fun c7 => ?_)
          · refine g_iload_n F 4 dX3_value_114 rfl rfl ?_
            refine g_iconst F 2 dX3_value_115 (by decide) ?_
            refine v_icmp_ge F 121 dX3_value_116 (by decide) x5_3.toInt 2 rfl rfl (fun c8 => ?_) (fun c8 => ?_)
            · refine u_iinc F (fun v_ => [(3, .int v_), (5, .int ((G 26) (x5_4.toInt).toNat)), (0, .ref (a 13)), (1, .int p0), (2, .int p1), (4, .int x5_4)]) dX3_value_121 (j := 4) rfl x5_3.toInt (-1) rfl rfl (by omega) (by omega) (by decide) (fun _ => rfl) (fun y9 ey9 => ?_)
              refine g_aload_n F 2 dX3_value_124 rfl rfl ?_
              refine xg_13_2 F i_X3 w_1 dX3_value_125 ?_
              refine g_iload_n F 0 dX3_value_128 rfl rfl ?_
              refine g_iconst F 1 dX3_value_129 (by decide) ?_
              refine u_isub F dX3_value_130 y9.toInt 1 rfl rfl (by omega) (by omega) (fun y10 ey10 => ?_)
              refine g_bipush F (-3) dX3_value_131 (by decide) ?_
              refine g_iload F 1 dX3_value_133 rfl ?_
              refine u_isub F dX3_value_135 (-3) ((G 26) (x5_4.toInt).toNat).toInt rfl rfl (by omega) (by omega) (fun y11 ey11 => ?_)
              refine g_aload_n F 2 dX3_value_136 rfl rfl ?_
              refine xg_13_2 F i_X3 w_1 dX3_value_137 ?_
              refine g_iload_n F 0 dX3_value_140 rfl rfl ?_
              refine g_iconst F 1 dX3_value_141 (by decide) ?_
              refine u_isub F dX3_value_142 y9.toInt 1 rfl rfl (by omega) (by omega) (fun y12 ey12 => ?_)
              refine u1_iald F 27 0 xc_27 rfl y12.toInt rfl (by omega) (by omega) dX3_value_143 ((Gj5 27) ((y9.toInt - 1)).toNat) (by rw [show y12.toInt = (y9.toInt - 1) by omega] <;> rfl) ?_
              refine g_aload_n F 2 dX3_value_144 rfl rfl ?_
              refine xg_13_2 F i_X3 w_1 dX3_value_145 ?_
              refine g_iload_n F 0 dX3_value_148 rfl rfl ?_
              refine u1_iald F 27 0 xc_27 rfl y9.toInt rfl (by omega) (by omega) dX3_value_149 ((Gj5 27) (y9.toInt).toNat) (rfl) ?_
              refine u_call0 (k := 0) (n := 0) (As := [.int y11, .int ((Gj5 27) ((y9.toInt - 1)).toNat), .int ((Gj5 27) (y9.toInt).toNat)]) (st := [.int y10, .ref (a 27)]) F (fun sz => S_X3_joined l D y11 y11.toInt ((Gj5 27) ((y9.toInt - 1)).toNat) ((Gj5 27) ((y9.toInt - 1)).toNat).toInt ((Gj5 27) (y9.toInt).toNat) ((Gj5 27) (y9.toInt).toNat).toInt rfl rfl rfl sz) (va_cwS 3 hts gX3_value_X3_joined rfl rfl rfl (by decide +kernel) ⟨Nat.le_of_ble_eq_true rfl, Nat.le_of_ble_eq_true rfl⟩) rfl (Nat.le_of_ble_eq_true rfl) ⟨Nat.zero_le _, Nat.zero_le _⟩ dX3_value_150 (fun r13 _ hw14 => ?_)
              have q16 : (r13.toInt = (eJ y11.toInt ((Gj5 27) ((y9.toInt - 1)).toNat) ((Gj5 27) (y9.toInt).toNat)).toInt) := hw14
              clear hw14
              refine u_iast F 27 0 xc_27 rfl y10.toInt rfl (by omega) (by omega) (xW K a (gu_up Gj5 27 (y10.toInt).toNat r13)) (xs_27 _) dX3_value_153 ?_
              refine u_iinc F (fun v_ => [(4, .int v_), (3, .int y9), (5, .int ((G 26) (x5_4.toInt).toNat)), (0, .ref (a 13)), (1, .int p0), (2, .int p1)]) dX3_value_154 (j := 5) rfl x5_4.toInt 1 rfl rfl (by omega) (by omega) (by decide) (fun _ => rfl) (fun y17 ey17 => ?_)
              refine g_goto F 5 dX3_value_157 (by decide) ?_
              refine g_locals [(0, .ref (a 13)), (1, .int p0), (2, .int p1), (3, .int y9), (4, .int y17)] [3, 4, 5, 1, 0] rfl ?_
              exact ih_5 y9 y17 (gu_up Gj5 27 (y10.toInt).toNat r13) (by omega) (by have h9 := ti_rng y9; omega) (by have h9 := ti_rng y17; omega) (gu_I.up (j := 27) (k := (y10.toInt).toNat) (v := r13) jI5 (ti_rng _).1 (ti_rng _).2) (gu_un.up (j := 27) (k := (y10.toInt).toNat) (v := r13) (gu_un.tr gu_un.rf (gu_un.su jU5 rfl)) (show (2700 : Nat) ∈ ([2700] : List Nat) by decide)) (fun hg => by rw [tkr_nx (f := G 26) (i := x5_4.toInt) (by omega) (by omega)]; have hsg := vSg (vAt hg (i := x5_4.toInt) (by omega) (by omega)) (by omega); exact vJoin (ev hg) (by omega) (show (gu_up Gj5 27 (y10.toInt).toNat r13) 27 = (upd (Gj5 27) (y10.toInt).toNat r13) from rfl) q16 (by omega) (by omega) (by omega) (by omega) (by omega) (by omega)) (by have h9 := (show (0 : Int) ≤ (G 13 1).toInt ∧ (G 13 1).toInt ≤ 80 from hI 13 1); (first | omega | (simp only [Int32.reduceToInt, true_and, and_true, ne_eq, not_true_eq_false, false_and, or_false, false_or, true_or, or_true, false_implies] <;> omega)))
            · refine g_iconst F 0 dX3_value_119 (by decide) ?_
              exact u_iret F hA hQ hr Gj5 (⟨jI5, (gu_un.tr gu_un.rf (gu_un.su jU5 rfl)), (fun hg => (vE3 hg (i := x5_4.toInt) (by omega) (by omega) (ev hg) (by omega) (by omega)).elim)⟩) rfl rfl dX3_value_120
          · refine g_iload_n F 4 dX3_value_87 rfl rfl ?_
            refine g_iconst F 1 dX3_value_88 (by decide) ?_
            refine v_icmp_ge F 94 dX3_value_89 (by decide) x5_3.toInt 1 rfl rfl (fun c18 => ?_) (fun c18 => ?_)
            · refine g_aload_n F 1 dX3_value_94 rfl rfl ?_
              refine xg_13_2 F i_X3 w_1 dX3_value_95 ?_
              refine g_iload_n F 4 dX3_value_98 rfl rfl ?_
              refine g_iconst F 1 dX3_value_99 (by decide) ?_
              refine u_isub F dX3_value_100 x5_3.toInt 1 rfl rfl (by omega) (by omega) (fun y19 ey19 => ?_)
              refine g_aload_n F 1 dX3_value_101 rfl rfl ?_
              refine xg_13_2 F i_X3 w_1 dX3_value_102 ?_
              refine g_iload_n F 4 dX3_value_105 rfl rfl ?_
              refine g_iconst F 1 dX3_value_106 (by decide) ?_
              refine u_isub F dX3_value_107 x5_3.toInt 1 rfl rfl (by omega) (by omega) (fun y20 ey20 => ?_)
              refine u1_iald F 27 0 xc_27 rfl y20.toInt rfl (by omega) (by omega) dX3_value_108 ((Gj5 27) ((x5_3.toInt - 1)).toNat) (by rw [show y20.toInt = (x5_3.toInt - 1) by omega] <;> rfl) ?_
              refine g_ineg F dX3_value_109 ?_
              have ng22 : -2147483648 < ((Gj5 27) ((x5_3.toInt - 1)).toNat).toInt → ((-((Gj5 27) ((x5_3.toInt - 1)).toNat)) : Int32).toInt = -((Gj5 27) ((x5_3.toInt - 1)).toNat).toInt := fun h9 => ti_neg rfl h9
              refine u_iast F 27 0 xc_27 rfl y19.toInt rfl (by omega) (by omega) (xW K a (gu_up Gj5 27 (y19.toInt).toNat (-((Gj5 27) ((x5_3.toInt - 1)).toNat)))) (xs_27 _) dX3_value_110 ?_
              refine g_goto F 154 dX3_value_111 (by decide) ?_
              refine u_iinc F (fun v_ => [(4, .int v_), (5, .int ((G 26) (x5_4.toInt).toNat)), (0, .ref (a 13)), (1, .int p0), (2, .int p1), (3, .int x5_3)]) dX3_value_154 (j := 5) rfl x5_4.toInt 1 rfl rfl (by omega) (by omega) (by decide) (fun _ => rfl) (fun y23 ey23 => ?_)
              refine g_goto F 5 dX3_value_157 (by decide) ?_
              refine g_locals [(0, .ref (a 13)), (1, .int p0), (2, .int p1), (3, .int x5_3), (4, .int y23)] [2, 3, 4, 5, 0] rfl ?_
              exact ih_5 x5_3 y23 (gu_up Gj5 27 (y19.toInt).toNat (-((Gj5 27) ((x5_3.toInt - 1)).toNat))) (by omega) (by have h9 := ti_rng x5_3; omega) (by have h9 := ti_rng y23; omega) (gu_I.up (j := 27) (k := (y19.toInt).toNat) (v := (-((Gj5 27) ((x5_3.toInt - 1)).toNat))) jI5 (ti_rng _).1 (ti_rng _).2) (gu_un.up (j := 27) (k := (y19.toInt).toNat) (v := (-((Gj5 27) ((x5_3.toInt - 1)).toNat))) (gu_un.tr gu_un.rf (gu_un.su jU5 rfl)) (show (2700 : Nat) ∈ ([2700] : List Nat) by decide)) (fun hg => by rw [tkr_nx (f := G 26) (i := x5_4.toInt) (by omega) (by omega)]; exact vNeg (ev hg) (by omega) (show (gu_up Gj5 27 (y19.toInt).toNat (-((Gj5 27) ((x5_3.toInt - 1)).toNat))) 27 = (upd (Gj5 27) (y19.toInt).toNat (-((Gj5 27) ((x5_3.toInt - 1)).toNat))) from rfl) (by omega) (by omega) (by omega)) (by have h9 := (show (0 : Int) ≤ (G 13 1).toInt ∧ (G 13 1).toInt ≤ 80 from hI 13 1); (first | omega | (simp only [Int32.reduceToInt, true_and, and_true, ne_eq, not_true_eq_false, false_and, or_false, false_or, true_or, or_true, false_implies] <;> omega)))
            · refine g_iconst F 0 dX3_value_92 (by decide) ?_
              exact u_iret F hA hQ hr Gj5 (⟨jI5, (gu_un.tr gu_un.rf (gu_un.su jU5 rfl)), (fun hg => (vE2 hg (i := x5_4.toInt) (by omega) (by omega) (ev hg) (by omega) (by omega)).elim)⟩) rfl rfl dX3_value_93
        · refine g_iload_n F 4 dX3_value_37 rfl rfl ?_
          refine g_bipush F 12 dX3_value_38 (by decide) ?_
          refine v_icmp_lt F 45 dX3_value_40 (by decide) x5_3.toInt 12 rfl rfl (fun c24 => ?_) (fun c24 => ?_)
          · refine g_aload_n F 1 dX3_value_45 rfl rfl ?_
            refine xg_13_2 F i_X3 w_1 dX3_value_46 ?_
            refine g_iload_n F 4 dX3_value_49 rfl rfl ?_
            refine g_iload F 0 dX3_value_50 rfl ?_
            refine g_iconst F (-1) dX3_value_52 (by decide) ?_
            have b25 := ti_rng ((G 26) (x5_4.toInt).toNat)
            refine v_icmp_ne F 60 dX3_value_53 (by decide) ((G 26) (x5_4.toInt).toNat).toInt (-1) rfl rfl (fun c26 => ?_) (fun c26 => ?_)
            · refine g_iload F 0 dX3_value_60 rfl ?_
              refine g_bipush F (-2) dX3_value_62 (by decide) ?_
              refine v_icmp_ne F 71 dX3_value_64 (by decide) ((G 26) (x5_4.toInt).toNat).toInt (-2) rfl rfl (fun c27 => ?_) (fun c27 => ?_)
              · refine g_iload F 0 dX3_value_71 rfl ?_
                refine u_iast F 27 0 xc_27 rfl x5_3.toInt rfl (by omega) (by omega) (xW K a (gu_up Gj5 27 (x5_3.toInt).toNat ((G 26) (x5_4.toInt).toNat))) (xs_27 _) dX3_value_73 ?_
                refine u_iinc F (fun v_ => [(3, .int v_), (5, .int ((G 26) (x5_4.toInt).toNat)), (0, .ref (a 13)), (1, .int p0), (2, .int p1), (4, .int x5_4)]) dX3_value_74 (j := 4) rfl x5_3.toInt 1 rfl rfl (by omega) (by omega) (by decide) (fun _ => rfl) (fun y28 ey28 => ?_)
                refine g_goto F 154 dX3_value_77 (by decide) ?_
                refine u_iinc F (fun v_ => [(4, .int v_), (3, .int y28), (5, .int ((G 26) (x5_4.toInt).toNat)), (0, .ref (a 13)), (1, .int p0), (2, .int p1)]) dX3_value_154 (j := 5) rfl x5_4.toInt 1 rfl rfl (by omega) (by omega) (by decide) (fun _ => rfl) (fun y29 ey29 => ?_)
                refine g_goto F 5 dX3_value_157 (by decide) ?_
                refine g_locals [(0, .ref (a 13)), (1, .int p0), (2, .int p1), (3, .int y28), (4, .int y29)] [3, 4, 5, 1, 0] rfl ?_
                exact ih_5 y28 y29 (gu_up Gj5 27 (x5_3.toInt).toNat ((G 26) (x5_4.toInt).toNat)) (by omega) (by have h9 := ti_rng y28; omega) (by have h9 := ti_rng y29; omega) (gu_I.up (j := 27) (k := (x5_3.toInt).toNat) (v := ((G 26) (x5_4.toInt).toNat)) jI5 (ti_rng _).1 (ti_rng _).2) (gu_un.up (j := 27) (k := (x5_3.toInt).toNat) (v := ((G 26) (x5_4.toInt).toNat)) (gu_un.tr gu_un.rf (gu_un.su jU5 rfl)) (show (2700 : Nat) ∈ ([2700] : List Nat) by decide)) (fun hg => by rw [tkr_nx (f := G 26) (i := x5_4.toInt) (by omega) (by omega)]; exact vPush (ev hg) (by omega) (by omega) (show (gu_up Gj5 27 (x5_3.toInt).toNat ((G 26) (x5_4.toInt).toNat)) 27 = (upd (Gj5 27) (x5_3.toInt).toNat ((G 26) (x5_4.toInt).toNat)) from rfl) (by first | exact eP_1 (by omega) | exact eP_2 (by omega) | exact eP_3 (by omega) (by omega) (by omega)) (by omega)) (by have h9 := (show (0 : Int) ≤ (G 13 1).toInt ∧ (G 13 1).toInt ≤ 80 from hI 13 1); (first | omega | (simp only [Int32.reduceToInt, true_and, and_true, ne_eq, not_true_eq_false, false_and, or_false, false_or, true_or, or_true, false_implies] <;> omega)))
              · refine g_iload_n F 3 dX3_value_67 rfl rfl ?_
                refine g_goto F 73 dX3_value_68 (by decide) ?_
                refine u_iast F 27 0 xc_27 rfl x5_3.toInt rfl (by omega) (by omega) (xW K a (gu_up Gj5 27 (x5_3.toInt).toNat p1)) (xs_27 _) dX3_value_73 ?_
                refine u_iinc F (fun v_ => [(3, .int v_), (5, .int ((G 26) (x5_4.toInt).toNat)), (0, .ref (a 13)), (1, .int p0), (2, .int p1), (4, .int x5_4)]) dX3_value_74 (j := 4) rfl x5_3.toInt 1 rfl rfl (by omega) (by omega) (by decide) (fun _ => rfl) (fun y30 ey30 => ?_)
                refine g_goto F 154 dX3_value_77 (by decide) ?_
                refine u_iinc F (fun v_ => [(4, .int v_), (3, .int y30), (5, .int ((G 26) (x5_4.toInt).toNat)), (0, .ref (a 13)), (1, .int p0), (2, .int p1)]) dX3_value_154 (j := 5) rfl x5_4.toInt 1 rfl rfl (by omega) (by omega) (by decide) (fun _ => rfl) (fun y31 ey31 => ?_)
                refine g_goto F 5 dX3_value_157 (by decide) ?_
                refine g_locals [(0, .ref (a 13)), (1, .int p0), (2, .int p1), (3, .int y30), (4, .int y31)] [3, 4, 5, 1, 0] rfl ?_
                exact ih_5 y30 y31 (gu_up Gj5 27 (x5_3.toInt).toNat p1) (by omega) (by have h9 := ti_rng y30; omega) (by have h9 := ti_rng y31; omega) (gu_I.up (j := 27) (k := (x5_3.toInt).toNat) (v := p1) jI5 (ti_rng _).1 (ti_rng _).2) (gu_un.up (j := 27) (k := (x5_3.toInt).toNat) (v := p1) (gu_un.tr gu_un.rf (gu_un.su jU5 rfl)) (show (2700 : Nat) ∈ ([2700] : List Nat) by decide)) (fun hg => by rw [tkr_nx (f := G 26) (i := x5_4.toInt) (by omega) (by omega)]; exact vPush (ev hg) (by omega) (by omega) (show (gu_up Gj5 27 (x5_3.toInt).toNat p1) 27 = (upd (Gj5 27) (x5_3.toInt).toNat p1) from rfl) (by first | exact eP_1 (by omega) | exact eP_2 (by omega) | exact eP_3 (by omega) (by omega) (by omega)) (by omega)) (by have h9 := (show (0 : Int) ≤ (G 13 1).toInt ∧ (G 13 1).toInt ≤ 80 from hI 13 1); (first | omega | (simp only [Int32.reduceToInt, true_and, and_true, ne_eq, not_true_eq_false, false_and, or_false, false_or, true_or, or_true, false_implies] <;> omega)))
            · refine g_iload_n F 2 dX3_value_56 rfl rfl ?_
              refine g_goto F 73 dX3_value_57 (by decide) ?_
              refine u_iast F 27 0 xc_27 rfl x5_3.toInt rfl (by omega) (by omega) (xW K a (gu_up Gj5 27 (x5_3.toInt).toNat p0)) (xs_27 _) dX3_value_73 ?_
              refine u_iinc F (fun v_ => [(3, .int v_), (5, .int ((G 26) (x5_4.toInt).toNat)), (0, .ref (a 13)), (1, .int p0), (2, .int p1), (4, .int x5_4)]) dX3_value_74 (j := 4) rfl x5_3.toInt 1 rfl rfl (by omega) (by omega) (by decide) (fun _ => rfl) (fun y32 ey32 => ?_)
              refine g_goto F 154 dX3_value_77 (by decide) ?_
              refine u_iinc F (fun v_ => [(4, .int v_), (3, .int y32), (5, .int ((G 26) (x5_4.toInt).toNat)), (0, .ref (a 13)), (1, .int p0), (2, .int p1)]) dX3_value_154 (j := 5) rfl x5_4.toInt 1 rfl rfl (by omega) (by omega) (by decide) (fun _ => rfl) (fun y33 ey33 => ?_)
              refine g_goto F 5 dX3_value_157 (by decide) ?_
              refine g_locals [(0, .ref (a 13)), (1, .int p0), (2, .int p1), (3, .int y32), (4, .int y33)] [3, 4, 5, 1, 0] rfl ?_
              exact ih_5 y32 y33 (gu_up Gj5 27 (x5_3.toInt).toNat p0) (by omega) (by have h9 := ti_rng y32; omega) (by have h9 := ti_rng y33; omega) (gu_I.up (j := 27) (k := (x5_3.toInt).toNat) (v := p0) jI5 (ti_rng _).1 (ti_rng _).2) (gu_un.up (j := 27) (k := (x5_3.toInt).toNat) (v := p0) (gu_un.tr gu_un.rf (gu_un.su jU5 rfl)) (show (2700 : Nat) ∈ ([2700] : List Nat) by decide)) (fun hg => by rw [tkr_nx (f := G 26) (i := x5_4.toInt) (by omega) (by omega)]; exact vPush (ev hg) (by omega) (by omega) (show (gu_up Gj5 27 (x5_3.toInt).toNat p0) 27 = (upd (Gj5 27) (x5_3.toInt).toNat p0) from rfl) (by first | exact eP_1 (by omega) | exact eP_2 (by omega) | exact eP_3 (by omega) (by omega) (by omega)) (by omega)) (by have h9 := (show (0 : Int) ≤ (G 13 1).toInt ∧ (G 13 1).toInt ≤ 80 from hI 13 1); (first | omega | (simp only [Int32.reduceToInt, true_and, and_true, ne_eq, not_true_eq_false, false_and, or_false, false_or, true_or, or_true, false_implies] <;> omega)))
          · refine g_iconst F 0 dX3_value_43 (by decide) ?_
            exact u_iret F hA hQ hr Gj5 (⟨jI5, (gu_un.tr gu_un.rf (gu_un.su jU5 rfl)), (fun hg => (vE1 hg (i := x5_4.toInt) (by omega) (by omega) (ev hg) (by omega) (by omega)).elim)⟩) rfl rfl dX3_value_44
  refine g_iconst F 0 dX3_value_0 (by decide) ?_
  refine g_istore_n F [(3, .int 0), (0, .ref (a 13)), (1, .int p0), (2, .int p1)] dX3_value_1 rfl (by decide) rfl ?_
  refine g_iconst F 0 dX3_value_2 (by decide) ?_
  refine g_istore F [(4, .int 0), (3, .int 0), (0, .ref (a 13)), (1, .int p0), (2, .int p1)] dX3_value_3 (by decide) rfl ?_
  refine g_locals [(0, .ref (a 13)), (1, .int p0), (2, .int p1), (3, .int 0), (4, .int 0)] [2, 3, 4, 1, 0] rfl ?_
  exact J_5 _ 0 0 G (Nat.lt_succ_self _) (by decide) (by decide) hI gu_un.rf (fun _ => rfl) (by have h9 := (show (0 : Int) ≤ (G 13 1).toInt ∧ (G 13 1).toInt ≤ 80 from hI 13 1); (first | omega | (simp only [Int32.reduceToInt, true_and, and_true, ne_eq, not_true_eq_false, false_and, or_false, false_or, true_or, or_true, false_implies] <;> omega)))

theorem dX5_bite_0 : decode cX5_bite 0 = .ok (.aload_n 0, 1) := by decide +kernel
theorem dX5_bite_1 : decode cX5_bite 1 = .ok (.getfield 29, 3) := by decide +kernel
theorem dX5_bite_4 : decode cX5_bite 4 = .ok (.getfield 56, 3) := by decide +kernel
theorem dX5_bite_7 : decode cX5_bite 7 = .ok (.iconst 0, 1) := by decide +kernel
theorem dX5_bite_8 : decode cX5_bite 8 = .ok (.iaload, 1) := by decide +kernel
theorem dX5_bite_9 : decode cX5_bite 9 = .ok (.istore 4, 2) := by decide +kernel
theorem dX5_bite_11 : decode cX5_bite 11 = .ok (.iconst 0, 1) := by decide +kernel
theorem dX5_bite_12 : decode cX5_bite 12 = .ok (.istore 5, 2) := by decide +kernel
theorem dX5_bite_14 : decode cX5_bite 14 = .ok (.iconst 0, 1) := by decide +kernel
theorem dX5_bite_15 : decode cX5_bite 15 = .ok (.istore 6, 2) := by decide +kernel
theorem dX5_bite_17 : decode cX5_bite 17 = .ok (.iload 6, 2) := by decide +kernel
theorem dX5_bite_19 : decode cX5_bite 19 = .ok (.aload_n 0, 1) := by decide +kernel
theorem dX5_bite_20 : decode cX5_bite 20 = .ok (.getfield 53, 3) := by decide +kernel
theorem dX5_bite_23 : decode cX5_bite 23 = .ok (.if_icmp .ge 186, 3) := by decide +kernel
theorem dX5_bite_26 : decode cX5_bite 26 = .ok (.iload 6, 2) := by decide +kernel
theorem dX5_bite_28 : decode cX5_bite 28 = .ok (.iconst 4, 1) := by decide +kernel
theorem dX5_bite_29 : decode cX5_bite 29 = .ok (.if_icmp .ge 180, 3) := by decide +kernel
theorem dX5_bite_32 : decode cX5_bite 32 = .ok (.iload_n 1, 1) := by decide +kernel
theorem dX5_bite_33 : decode cX5_bite 33 = .ok (.aload_n 0, 1) := by decide +kernel
theorem dX5_bite_34 : decode cX5_bite 34 = .ok (.getfield 11, 3) := by decide +kernel
theorem dX5_bite_37 : decode cX5_bite 37 = .ok (.iload 6, 2) := by decide +kernel
theorem dX5_bite_39 : decode cX5_bite 39 = .ok (.iaload, 1) := by decide +kernel
theorem dX5_bite_40 : decode cX5_bite 40 = .ok (.iadd, 1) := by decide +kernel
theorem dX5_bite_41 : decode cX5_bite 41 = .ok (.iconst 1, 1) := by decide +kernel
theorem dX5_bite_42 : decode cX5_bite 42 = .ok (.iload 4, 2) := by decide +kernel
theorem dX5_bite_44 : decode cX5_bite 44 = .ok (.invokestatic 146, 3) := by decide +kernel
theorem dX5_bite_47 : decode cX5_bite 47 = .ok (.invokestatic 151, 3) := by decide +kernel
theorem dX5_bite_50 : decode cX5_bite 50 = .ok (.istore 7, 2) := by decide +kernel
theorem dX5_bite_52 : decode cX5_bite 52 = .ok (.iload 7, 2) := by decide +kernel
theorem dX5_bite_54 : decode cX5_bite 54 = .ok (.bipush 16, 2) := by decide +kernel
theorem dX5_bite_56 : decode cX5_bite 56 = .ok (.if_icmp .ge 20, 3) := by decide +kernel
theorem dX5_bite_59 : decode cX5_bite 59 = .ok (.aload_n 0, 1) := by decide +kernel
theorem dX5_bite_60 : decode cX5_bite 60 = .ok (.getfield 17, 3) := by decide +kernel
theorem dX5_bite_63 : decode cX5_bite 63 = .ok (.iload 7, 2) := by decide +kernel
theorem dX5_bite_65 : decode cX5_bite 65 = .ok (.iaload, 1) := by decide +kernel
theorem dX5_bite_66 : decode cX5_bite 66 = .ok (.iload_n 3, 1) := by decide +kernel
theorem dX5_bite_67 : decode cX5_bite 67 = .ok (.isub, 1) := by decide +kernel
theorem dX5_bite_68 : decode cX5_bite 68 = .ok (.aload_n 0, 1) := by decide +kernel
theorem dX5_bite_69 : decode cX5_bite 69 = .ok (.getfield 131, 3) := by decide +kernel
theorem dX5_bite_72 : decode cX5_bite 72 = .ok (.isub, 1) := by decide +kernel
theorem dX5_bite_73 : decode cX5_bite 73 = .ok (.goto 4, 3) := by decide +kernel
theorem dX5_bite_76 : decode cX5_bite 76 = .ok (.iconst 0, 1) := by decide +kernel
theorem dX5_bite_77 : decode cX5_bite 77 = .ok (.istore 8, 2) := by decide +kernel
theorem dX5_bite_79 : decode cX5_bite 79 = .ok (.iload 8, 2) := by decide +kernel
theorem dX5_bite_81 : decode cX5_bite 81 = .ok (.ifCond .gt 16, 3) := by decide +kernel
theorem dX5_bite_84 : decode cX5_bite 84 = .ok (.aload_n 0, 1) := by decide +kernel
theorem dX5_bite_85 : decode cX5_bite 85 = .ok (.dup, 1) := by decide +kernel
theorem dX5_bite_86 : decode cX5_bite 86 = .ok (.getfield 140, 3) := by decide +kernel
theorem dX5_bite_89 : decode cX5_bite 89 = .ok (.iconst 1, 1) := by decide +kernel
theorem dX5_bite_90 : decode cX5_bite 90 = .ok (.iadd, 1) := by decide +kernel
theorem dX5_bite_91 : decode cX5_bite 91 = .ok (.putfield 140, 3) := by decide +kernel
theorem dX5_bite_94 : decode cX5_bite 94 = .ok (.goto 109, 3) := by decide +kernel
theorem dX5_bite_97 : decode cX5_bite 97 = .ok (.iload 5, 2) := by decide +kernel
theorem dX5_bite_99 : decode cX5_bite 99 = .ok (.aload_n 0, 1) := by decide +kernel
theorem dX5_bite_100 : decode cX5_bite 100 = .ok (.getfield 29, 3) := by decide +kernel
theorem dX5_bite_103 : decode cX5_bite 103 = .ok (.getfield 154, 3) := by decide +kernel
theorem dX5_bite_106 : decode cX5_bite 106 = .ok (.iload 8, 2) := by decide +kernel
theorem dX5_bite_108 : decode cX5_bite 108 = .ok (.aload_n 0, 1) := by decide +kernel
theorem dX5_bite_109 : decode cX5_bite 109 = .ok (.getfield 128, 3) := by decide +kernel
theorem dX5_bite_112 : decode cX5_bite 112 = .ok (.invokevirtual 94, 3) := by decide +kernel
theorem dX5_bite_115 : decode cX5_bite 115 = .ok (.sipush (-9999), 3) := by decide +kernel
theorem dX5_bite_118 : decode cX5_bite 118 = .ok (.sipush 9999, 3) := by decide +kernel
theorem dX5_bite_121 : decode cX5_bite 121 = .ok (.invokestatic 99, 3) := by decide +kernel
theorem dX5_bite_124 : decode cX5_bite 124 = .ok (.iadd, 1) := by decide +kernel
theorem dX5_bite_125 : decode cX5_bite 125 = .ok (.istore 5, 2) := by decide +kernel
theorem dX5_bite_127 : decode cX5_bite 127 = .ok (.aload_n 0, 1) := by decide +kernel
theorem dX5_bite_128 : decode cX5_bite 128 = .ok (.sipush 30000, 3) := by decide +kernel
theorem dX5_bite_131 : decode cX5_bite 131 = .ok (.aload_n 0, 1) := by decide +kernel
theorem dX5_bite_132 : decode cX5_bite 132 = .ok (.getfield 128, 3) := by decide +kernel
theorem dX5_bite_135 : decode cX5_bite 135 = .ok (.aload_n 0, 1) := by decide +kernel
theorem dX5_bite_136 : decode cX5_bite 136 = .ok (.getfield 29, 3) := by decide +kernel
theorem dX5_bite_139 : decode cX5_bite 139 = .ok (.getfield 157, 3) := by decide +kernel
theorem dX5_bite_142 : decode cX5_bite 142 = .ok (.iload 8, 2) := by decide +kernel
theorem dX5_bite_144 : decode cX5_bite 144 = .ok (.iconst 0, 1) := by decide +kernel
theorem dX5_bite_145 : decode cX5_bite 145 = .ok (.invokevirtual 94, 3) := by decide +kernel
theorem dX5_bite_148 : decode cX5_bite 148 = .ok (.iconst 0, 1) := by decide +kernel
theorem dX5_bite_149 : decode cX5_bite 149 = .ok (.sipush 30000, 3) := by decide +kernel
theorem dX5_bite_152 : decode cX5_bite 152 = .ok (.invokestatic 99, 3) := by decide +kernel
theorem dX5_bite_155 : decode cX5_bite 155 = .ok (.iadd, 1) := by decide +kernel
theorem dX5_bite_156 : decode cX5_bite 156 = .ok (.invokestatic 159, 3) := by decide +kernel
theorem dX5_bite_159 : decode cX5_bite 159 = .ok (.putfield 128, 3) := by decide +kernel
theorem dX5_bite_162 : decode cX5_bite 162 = .ok (.aload_n 0, 1) := by decide +kernel
theorem dX5_bite_163 : decode cX5_bite 163 = .ok (.getfield 17, 3) := by decide +kernel
theorem dX5_bite_166 : decode cX5_bite 166 = .ok (.iload 7, 2) := by decide +kernel
theorem dX5_bite_168 : decode cX5_bite 168 = .ok (.iload_n 3, 1) := by decide +kernel
theorem dX5_bite_169 : decode cX5_bite 169 = .ok (.aload_n 0, 1) := by decide +kernel
theorem dX5_bite_170 : decode cX5_bite 170 = .ok (.getfield 131, 3) := by decide +kernel
theorem dX5_bite_173 : decode cX5_bite 173 = .ok (.iadd, 1) := by decide +kernel
theorem dX5_bite_174 : decode cX5_bite 174 = .ok (.iastore, 1) := by decide +kernel
theorem dX5_bite_175 : decode cX5_bite 175 = .ok (.aload_n 0, 1) := by decide +kernel
theorem dX5_bite_176 : decode cX5_bite 176 = .ok (.getfield 20, 3) := by decide +kernel
theorem dX5_bite_179 : decode cX5_bite 179 = .ok (.iload 7, 2) := by decide +kernel
theorem dX5_bite_181 : decode cX5_bite 181 = .ok (.iload_n 2, 1) := by decide +kernel
theorem dX5_bite_182 : decode cX5_bite 182 = .ok (.iastore, 1) := by decide +kernel
theorem dX5_bite_183 : decode cX5_bite 183 = .ok (.aload_n 0, 1) := by decide +kernel
theorem dX5_bite_184 : decode cX5_bite 184 = .ok (.getfield 23, 3) := by decide +kernel
theorem dX5_bite_187 : decode cX5_bite 187 = .ok (.iload 7, 2) := by decide +kernel
theorem dX5_bite_189 : decode cX5_bite 189 = .ok (.iload 6, 2) := by decide +kernel
theorem dX5_bite_191 : decode cX5_bite 191 = .ok (.iastore, 1) := by decide +kernel
theorem dX5_bite_192 : decode cX5_bite 192 = .ok (.aload_n 0, 1) := by decide +kernel
theorem dX5_bite_193 : decode cX5_bite 193 = .ok (.getfield 26, 3) := by decide +kernel
theorem dX5_bite_196 : decode cX5_bite 196 = .ok (.iload 7, 2) := by decide +kernel
theorem dX5_bite_198 : decode cX5_bite 198 = .ok (.aload_n 0, 1) := by decide +kernel
theorem dX5_bite_199 : decode cX5_bite 199 = .ok (.getfield 131, 3) := by decide +kernel
theorem dX5_bite_202 : decode cX5_bite 202 = .ok (.iastore, 1) := by decide +kernel
theorem dX5_bite_203 : decode cX5_bite 203 = .ok (.iinc 6 1, 3) := by decide +kernel
theorem dX5_bite_206 : decode cX5_bite 206 = .ok (.goto (-189), 3) := by decide +kernel
theorem dX5_bite_209 : decode cX5_bite 209 = .ok (.iload 5, 2) := by decide +kernel
theorem dX5_bite_211 : decode cX5_bite 211 = .ok (.ireturn, 1) := by decide +kernel
set_option maxRecDepth 20000 in
theorem ggX5_bite_J9_floorMod_7cf53 : GoodIn wsX5_bite wsJ9_floorMod_7cf53 := goodIn_r _ [24] rfl (by decide +kernel)
set_option maxRecDepth 20000 in
theorem gX5_bite_J9_floorMod_7cf53 : GoodIn wsX5_bite (va_wsS RX5 151 yJ9_floorMod_7cf53 wsJ9_floorMod_7cf53) := goodIn_app (goodIn_of _ (by decide +kernel)) ggX5_bite_J9_floorMod_7cf53
set_option maxRecDepth 20000 in
theorem ggX5_bite_X3_value : GoodIn wsX5_bite wsX3_value := goodIn_r _ [29, 30, 31, 32, 33, 34, 28, 35, 64, 65, 66, 67, 68, 69, 70, 71, 72] rfl (by decide +kernel)
set_option maxRecDepth 20000 in
theorem gX5_bite_X3_value : GoodIn wsX5_bite (wsV RX5 94 RX3 yX3_value wsX3_value) := goodIn_app (goodIn_of _ (by decide +kernel)) ggX5_bite_X3_value
set_option maxRecDepth 20000 in
theorem ggX5_bite_X5_within : GoodIn wsX5_bite wsX5_within := goodIn_r _ [39, 15, 16, 7, 17, 5, 6, 8] rfl (by decide +kernel)
set_option maxRecDepth 20000 in
theorem gX5_bite_X5_within : GoodIn wsX5_bite (va_wsS RX5 99 yX5_within wsX5_within) := goodIn_app (goodIn_of _ (by decide +kernel)) ggX5_bite_X5_within
set_option maxHeartbeats 4000000 in
set_option maxRecDepth 100000 in
theorem S_X5_bite (l : Launch) (D : va_G) (K : Nat → ClassId) (a : Nat → Nat) (G : gS) (p0 : Int32) (s0 : Int) (p1 : Int32) (s1 : Int) (p2 : Int32) (s2 : Int) (e0 : p0.toInt = s0) (h0 : 0 ≤ s0 ∧ s0 ≤ 15) (e1 : p1.toInt = s1) (e2 : p2.toInt = s2) (hI : xI G) (sz : Nat) : Ki l yX5_bite wsX5_bite 3 87 0 0 D [.ref (a 6), .int p0, .int p1, .int p2] (xW K a G) (tK K) sz (fun (r : Int32) (G' : gS) => (xI G') ∧ (gu_un xcd [613, 618, 2100, 2700, 4500, 4600, 4700, 4800] G G')) (fun (G' : gS) => (xW K a G')) (fun _ => (tK K)) := by
  unfold Ki
  refine g_ofW (cc := cX5_bite) (lv := [(0, .ref (a 6)), (1, .int p0), (2, .int p1), (3, .int p2)]) (by decide) rfl (Nat.le_of_ble_eq_true rfl) rfl ?_
  intro p e s m args below meth c A Q hA hQ F hr hnm
  have hts := F.2.2.2.2.1
  have w_0 : (Cond.fieldLink RX5 29 "QuietCut$Lathe" "shop" "LQuietCut$Shop;").before args s = true := hts _ (List.mem_of_getElem? (i := 1) rfl)
  have i_X5 : ∀ w ∈ u_ws RX5 TX5 20, w ∈ wsX5_bite := fun _ h => List.mem_cons_of_mem _ (List.mem_append_left _ (List.mem_append_left _ (List.mem_append_right _ h)))
  have w_1 : (Cond.fieldLink RX5 154 "QuietCut$Shop" "force" "LQuietCut$Formula;").before args s = true := hts _ (List.mem_of_getElem? (i := 12) rfl)
  have i_X7 : ∀ w ∈ u_ws RX7 TX7 4, w ∈ wsX5_bite := fun _ h => List.mem_cons_of_mem _ (List.mem_append_left _ (List.mem_append_right _ h))
  have w_2 : (Cond.fieldLink RX5 128 "QuietCut$Lathe" "wear" "I").before args s = true := hts _ (List.mem_of_getElem? (i := 13) rfl)
  have w_3 : (Cond.fieldLink RX5 157 "QuietCut$Shop" "wear" "LQuietCut$Formula;").before args s = true := hts _ (List.mem_of_getElem? (i := 14) rfl)
  have w_4 : (Cond.methodLink RX5 159 Lib.Math.min.name).before args s = true := hts _ (List.mem_of_getElem? (i := 15) rfl)
  have w_5 : (Cond.static Lib.Math.min.name).before args s = true := hts _ (List.mem_of_getElem? (i := 16) rfl)
  have w_6 : (Cond.initialized "java/lang/Math").before args s = true := hts _ (List.mem_of_getElem? (i := 7) rfl)
  have w_7 : (Cond.code Lib.Math.min.name Lib.Math.min.code 2 (some .int)).before args s = true := hts _ (List.mem_of_getElem? (i := 17) rfl)
  have w_8 : (Cond.fieldLink RX5 17 "QuietCut$Lathe" "heights" "[I").before args s = true := hts _ (List.mem_of_getElem? (i := 9) rfl)
  have w_9 : (Cond.fieldLink RX5 131 "QuietCut$Lathe" "x" "I").before args s = true := hts _ (List.mem_of_getElem? (i := 10) rfl)
  have w_10 : (Cond.fieldLink RX5 20 "QuietCut$Lathe" "leftTurn" "[I").before args s = true := hts _ (List.mem_of_getElem? (i := 18) rfl)
  have w_11 : (Cond.fieldLink RX5 23 "QuietCut$Lathe" "leftTooth" "[I").before args s = true := hts _ (List.mem_of_getElem? (i := 19) rfl)
  have w_12 : (Cond.fieldLink RX5 26 "QuietCut$Lathe" "leftX" "[I").before args s = true := hts _ (List.mem_of_getElem? (i := 20) rfl)
  have w_13 : (Cond.fieldLink RX5 140 "QuietCut$Lathe" "out" "I").before args s = true := hts _ (List.mem_of_getElem? (i := 11) rfl)
  have w_14 : (Cond.fieldLink RX5 53 "QuietCut$Lathe" "teethMany" "I").before args s = true := hts _ (List.mem_of_getElem? (i := 3) rfl)
  have w_15 : (Cond.fieldLink RX5 11 "QuietCut$Lathe" "teeth" "[I").before args s = true := hts _ (List.mem_of_getElem? (i := 4) rfl)
  have w_16 : (Cond.methodLink RX5 146 Lib.Math.max.name).before args s = true := hts _ (List.mem_of_getElem? (i := 5) rfl)
  have w_17 : (Cond.static Lib.Math.max.name).before args s = true := hts _ (List.mem_of_getElem? (i := 6) rfl)
  have w_18 : (Cond.code Lib.Math.max.name Lib.Math.max.code 2 (some .int)).before args s = true := hts _ (List.mem_of_getElem? (i := 8) rfl)
  have w_19 : (Cond.fieldLink RX5 56 "QuietCut$Shop" "numbers" "[I").before args s = true := hts _ (List.mem_of_getElem? (i := 2) rfl)
  have rg1 : -2147483648 ≤ s1 ∧ s1 ≤ 2147483647 := e1 ▸ ti_rng p1
  have rg2 : -2147483648 ≤ s2 ∧ s2 ≤ 2147483647 := e2 ▸ ti_rng p2
  have J_17 : ∀ (fuel : Nat) (x17_5 : Int32) (x17_6 : Int32) (Gj17 : gS), (2147483647 - x17_6.toInt).toNat < fuel → (0 ≤ x17_6.toInt ∧ x17_6.toInt ≤ 4) → (xI Gj17) → (gu_un xcd [613, 618, 2100, 2700, 4500, 4600, 4700, 4800] G Gj17) → gG p l e (gR 3 0 0 87) s m args below meth c D A 9 Q 0 0 (xW K a Gj17) (tK K) [(0, .ref (a 6)), (1, .int p0), (2, .int p1), (3, .int p2), (4, .int (G 18 0)), (5, .int x17_5), (6, .int x17_6)] 17 [] := by
    intro fuel
    induction fuel with
    | zero => intro x17_5 x17_6 Gj17 hm; exact absurd hm (Nat.not_lt_zero _)
    | succ fuel_17 ih_17 =>
      intro x17_5 x17_6 Gj17 hm_17 h17_6 jI17 jU17
      have J_203 : ∀  (x203_5 : Int32) (Gj203 : gS), (0 ≤ x17_6.toInt ∧ x17_6.toInt ≤ 3) → (xI Gj203) → (gu_un xcd [613, 618, 2100, 2700, 4500, 4600, 4700, 4800] Gj17 Gj203) → gG p l e (gR 3 0 0 87) s m args below meth c D A 9 Q 0 0 (xW K a Gj203) (tK K) [(0, .ref (a 6)), (1, .int p0), (2, .int p1), (3, .int p2), (4, .int (G 18 0)), (5, .int x203_5), (6, .int x17_6)] 203 [] := by
        intro x203_5 Gj203 k203_6 jI203 jU203
        refine u_iinc F (fun v_ => [(6, .int v_), (0, .ref (a 6)), (1, .int p0), (2, .int p1), (3, .int p2), (4, .int (G 18 0)), (5, .int x203_5)]) dX5_bite_203 (j := 6) rfl x17_6.toInt 1 rfl rfl (by omega) (by omega) (by decide) (fun _ => rfl) (fun y1 ey1 => ?_)
        refine g_goto F 17 dX5_bite_206 (by decide) ?_
        refine g_locals [(0, .ref (a 6)), (1, .int p0), (2, .int p1), (3, .int p2), (4, .int (G 18 0)), (5, .int x203_5), (6, .int y1)] [1, 2, 3, 4, 5, 6, 0] rfl ?_
        exact ih_17 x203_5 y1 Gj203 (by omega) (by have h9 := ti_rng y1; omega) jI203 (gu_un.tr (gu_un.tr gu_un.rf (gu_un.su jU17 rfl)) (gu_un.su jU203 rfl))
      have J_77 : ∀  (x77_7 : Int32) (z77_0 : Int32), (0 ≤ x17_6.toInt ∧ x17_6.toInt ≤ 3) → (0 ≤ x77_7.toInt ∧ x77_7.toInt ≤ 15) → gG p l e (gR 3 0 0 87) s m args below meth c D A 9 Q 0 0 (xW K a Gj17) (tK K) [(0, .ref (a 6)), (1, .int p0), (2, .int p1), (3, .int p2), (4, .int (G 18 0)), (5, .int x17_5), (6, .int x17_6), (7, .int x77_7)] 77 [.int z77_0] := by
        intro x77_7 z77_0 k77_6 h77_7
        refine g_istore F [(8, .int z77_0), (0, .ref (a 6)), (1, .int p0), (2, .int p1), (3, .int p2), (4, .int (G 18 0)), (5, .int x17_5), (6, .int x17_6), (7, .int x77_7)] dX5_bite_77 (by decide) rfl ?_
        refine g_iload F 0 dX5_bite_79 rfl ?_
        refine v_if_gt F 97 dX5_bite_81 (by decide) z77_0.toInt rfl (fun c2 => ?_) (fun c2 => ?_)
        · refine g_iload F 6 dX5_bite_97 rfl ?_
          refine g_aload_n F 1 dX5_bite_99 rfl rfl ?_
          refine xg_6_0 F i_X5 w_0 dX5_bite_100 ?_
          refine xg_2_1 F i_X7 w_1 dX5_bite_103 ?_
          refine g_iload F 0 dX5_bite_106 rfl ?_
          refine g_aload_n F 1 dX5_bite_108 rfl rfl ?_
          refine xg_6_12 F i_X5 w_2 dX5_bite_109 (Gj17 6 12) (rfl) ?_
          have b3 := ti_rng z77_0
          refine u_callVi (k := 0) (n := 0) (b := a 11) (As := [.int z77_0, .int (Gj17 6 12)]) (st := [.int x17_5]) F (fun sz => S_X3_value_11 l D K a Gj17 z77_0 z77_0.toInt (Gj17 6 12) (Gj17 6 12).toInt rfl rfl jI17 sz) (cwV 2 hts gX5_bite_X3_value rfl rfl rfl (by decide +kernel) ⟨Nat.le_of_ble_eq_true rfl, Nat.le_of_ble_eq_true rfl⟩) rfl 11 xc_11 rfl (Nat.le_of_ble_eq_true rfl) ⟨Nat.zero_le _, Nat.zero_le _⟩ dX5_bite_112 (fun r4 G6 hw5 => ?_)
          have hI7 : xI G6 := hw5.1
          have hU8 : gu_un xcd [2100] Gj17 G6 := hw5.2.1
          have hp9 := hw5.2.2
          have b10 : (0 : Int) ≤ (G 11 1).toInt ∧ (G 11 1).toInt ≤ 80 := hI 11 1
          have q11 : (gcOK (tkr (G 20) ((G 11 1).toInt).toNat) → r4.toInt = (eV z77_0 (Gj17 6 12) (tkr (G 20) ((G 11 1).toInt).toNat)).toInt) := by have h9 := hp9; (try simp only [(show Gj17 11 1 = (G 11 1) from jU17 11 1 (by decide)), (show Gj17 11 1 = (G 11 1) from jU17 11 1 (by decide)), (show Gj17 20 = (G 20) from (show Gj17 20 = G 20 from funext fun k_ => jU17 20 k_ (show (2000 : Nat) ∉ ([613, 618, 2100, 2700, 4500, 4600, 4700, 4800] : List Nat) by decide))), (show Gj17 20 = (G 20) from (show Gj17 20 = G 20 from funext fun k_ => jU17 20 k_ (show (2000 : Nat) ∉ ([613, 618, 2100, 2700, 4500, 4600, 4700, 4800] : List Nat) by decide)))] at h9); first | exact h9 | omega
          clear hp9 hw5
          refine g_sipush F (-9999) dX5_bite_115 (by decide) ?_
          refine g_sipush F 9999 dX5_bite_118 (by decide) ?_
          refine u_call0 (k := 0) (n := 0) (As := [.int r4, .int (-9999), .int 9999]) (st := [.int x17_5]) F (fun sz => S_X5_within l D r4 r4.toInt (-9999) (-9999) 9999 9999 rfl rfl rfl sz) (va_cwS 3 hts gX5_bite_X5_within rfl rfl rfl (by decide +kernel) ⟨Nat.le_of_ble_eq_true rfl, Nat.le_of_ble_eq_true rfl⟩) rfl (Nat.le_of_ble_eq_true rfl) ⟨Nat.zero_le _, Nat.zero_le _⟩ dX5_bite_121 (fun r12 _ hw13 => ?_)
          refine u0_iadd F dX5_bite_124 (fun y15 => ?_)
          refine g_istore F [(5, .int y15), (8, .int z77_0), (0, .ref (a 6)), (1, .int p0), (2, .int p1), (3, .int p2), (4, .int (G 18 0)), (6, .int x17_6), (7, .int x77_7)] dX5_bite_125 (by decide) rfl ?_
          refine g_aload_n F 2 dX5_bite_127 rfl rfl ?_
          refine g_sipush F 30000 dX5_bite_128 (by decide) ?_
          refine g_aload_n F 2 dX5_bite_131 rfl rfl ?_
          refine xg_6_12 F i_X5 w_2 dX5_bite_132 (Gj17 6 12) (hU8 6 12 (by decide)) ?_
          refine g_aload_n F 2 dX5_bite_135 rfl rfl ?_
          refine xg_6_0 F i_X5 w_0 dX5_bite_136 ?_
          refine xg_2_3 F i_X7 w_3 dX5_bite_139 ?_
          refine g_iload F 1 dX5_bite_142 rfl ?_
          refine g_iconst F 0 dX5_bite_144 (by decide) ?_
          refine u_callVi (k := 0) (n := 0) (b := a 13) (As := [.int z77_0, .int 0]) (st := [.int (Gj17 6 12), .int 30000, .ref (a 6)]) F (fun sz => S_X3_value_13 l D K a G6 z77_0 z77_0.toInt 0 0 rfl rfl hI7 sz) (cwV 2 hts gX5_bite_X3_value rfl rfl rfl (by decide +kernel) ⟨Nat.le_of_ble_eq_true rfl, Nat.le_of_ble_eq_true rfl⟩) rfl 13 xc_13 rfl (Nat.le_of_ble_eq_true rfl) ⟨Nat.zero_le _, Nat.zero_le _⟩ dX5_bite_145 (fun r16 G18 hw17 => ?_)
          have hI19 : xI G18 := hw17.1
          have hU20 : gu_un xcd [2700] G6 G18 := hw17.2.1
          have hp21 := hw17.2.2
          have b22 : (0 : Int) ≤ (G 13 1).toInt ∧ (G 13 1).toInt ≤ 80 := hI 13 1
          have q23 : (gcOK (tkr (G 26) ((G 13 1).toInt).toNat) → r16.toInt = (eV z77_0 0 (tkr (G 26) ((G 13 1).toInt).toNat)).toInt) := by have h9 := hp21; (try simp only [(show G6 13 1 = (G 13 1) from (hU8 13 1 (by decide)).trans (jU17 13 1 (by decide))), (show G6 13 1 = (G 13 1) from (hU8 13 1 (by decide)).trans (jU17 13 1 (by decide))), (show G6 26 = (G 26) from (show G6 26 = Gj17 26 from funext fun k_ => hU8 26 k_ (show (2600 : Nat) ∉ ([2100] : List Nat) by decide)).trans ((show Gj17 26 = G 26 from funext fun k_ => jU17 26 k_ (show (2600 : Nat) ∉ ([613, 618, 2100, 2700, 4500, 4600, 4700, 4800] : List Nat) by decide)))), (show G6 26 = (G 26) from (show G6 26 = Gj17 26 from funext fun k_ => hU8 26 k_ (show (2600 : Nat) ∉ ([2100] : List Nat) by decide)).trans ((show Gj17 26 = G 26 from funext fun k_ => jU17 26 k_ (show (2600 : Nat) ∉ ([613, 618, 2100, 2700, 4500, 4600, 4700, 4800] : List Nat) by decide))))] at h9); first | exact h9 | omega
          clear hp21 hw17
          refine g_iconst F 0 dX5_bite_148 (by decide) ?_
          refine g_sipush F 30000 dX5_bite_149 (by decide) ?_
          refine u_call0 (k := 0) (n := 0) (As := [.int r16, .int 0, .int 30000]) (st := [.int (Gj17 6 12), .int 30000, .ref (a 6)]) F (fun sz => S_X5_within l D r16 r16.toInt 0 0 30000 30000 rfl rfl rfl sz) (va_cwS 3 hts gX5_bite_X5_within rfl rfl rfl (by decide +kernel) ⟨Nat.le_of_ble_eq_true rfl, Nat.le_of_ble_eq_true rfl⟩) rfl (Nat.le_of_ble_eq_true rfl) ⟨Nat.zero_le _, Nat.zero_le _⟩ dX5_bite_152 (fun r24 _ hw25 => ?_)
          refine u0_iadd F dX5_bite_155 (fun y27 => ?_)
          refine u_mmin F w_4 w_5 w_6 w_7 (Nat.le_of_ble_eq_true rfl) (Nat.le_of_ble_eq_true rfl) (Nat.le_of_ble_eq_true rfl) (Nat.le_of_ble_eq_true rfl) dX5_bite_156 30000 y27.toInt rfl rfl (fun y28 ey28 => ?_)
          have b29 := ti_rng y28
          refine xp_6_12 F i_X5 w_2 dX5_bite_159 ?_
          refine g_aload_n F 2 dX5_bite_162 rfl rfl ?_
          refine xg_6_8 F i_X5 w_8 dX5_bite_163 ?_
          refine g_iload F 8 dX5_bite_166 rfl ?_
          refine g_iload_n F 5 dX5_bite_168 rfl rfl ?_
          refine g_aload_n F 2 dX5_bite_169 rfl rfl ?_
          refine xg_6_13 F i_X5 w_9 dX5_bite_170 (G 6 13) ((hU20 6 13 (by decide)).trans ((hU8 6 13 (by decide)).trans (jU17 6 13 (by decide)))) ?_
          refine u0_iadd F dX5_bite_173 (fun y30 => ?_)
          refine u_iast F 45 0 xc_45 rfl x77_7.toInt rfl (by omega) (by omega) (xW K a (gu_up (gu_up G18 6 12 y28) 45 (x77_7.toInt).toNat y30)) (xs_45 _) dX5_bite_174 ?_
          refine g_aload_n F 2 dX5_bite_175 rfl rfl ?_
          refine xg_6_9 F i_X5 w_10 dX5_bite_176 ?_
          refine g_iload F 8 dX5_bite_179 rfl ?_
          refine g_iload_n F 4 dX5_bite_181 rfl rfl ?_
          refine u_iast F 46 0 xc_46 rfl x77_7.toInt rfl (by omega) (by omega) (xW K a (gu_up (gu_up (gu_up G18 6 12 y28) 45 (x77_7.toInt).toNat y30) 46 (x77_7.toInt).toNat p1)) (xs_46 _) dX5_bite_182 ?_
          refine g_aload_n F 2 dX5_bite_183 rfl rfl ?_
          refine xg_6_10 F i_X5 w_11 dX5_bite_184 ?_
          refine g_iload F 8 dX5_bite_187 rfl ?_
          refine g_iload F 7 dX5_bite_189 rfl ?_
          refine u_iast F 47 0 xc_47 rfl x77_7.toInt rfl (by omega) (by omega) (xW K a (gu_up (gu_up (gu_up (gu_up G18 6 12 y28) 45 (x77_7.toInt).toNat y30) 46 (x77_7.toInt).toNat p1) 47 (x77_7.toInt).toNat x17_6)) (xs_47 _) dX5_bite_191 ?_
          refine g_aload_n F 2 dX5_bite_192 rfl rfl ?_
          refine xg_6_11 F i_X5 w_12 dX5_bite_193 ?_
          refine g_iload F 8 dX5_bite_196 rfl ?_
          refine g_aload_n F 2 dX5_bite_198 rfl rfl ?_
          refine xg_6_13 F i_X5 w_9 dX5_bite_199 (G 6 13) ((hU20 6 13 (by decide)).trans ((hU8 6 13 (by decide)).trans (jU17 6 13 (by decide)))) ?_
          refine u_iast F 48 0 xc_48 rfl x77_7.toInt rfl (by omega) (by omega) (xW K a (gu_up (gu_up (gu_up (gu_up (gu_up G18 6 12 y28) 45 (x77_7.toInt).toNat y30) 46 (x77_7.toInt).toNat p1) 47 (x77_7.toInt).toNat x17_6) 48 (x77_7.toInt).toNat (G 6 13))) (xs_48 _) dX5_bite_202 ?_
          refine g_locals [(0, .ref (a 6)), (1, .int p0), (2, .int p1), (3, .int p2), (4, .int (G 18 0)), (5, .int y15), (6, .int x17_6)] [2, 3, 4, 5, 6, 0, 7] rfl ?_
          exact J_203 y15 (gu_up (gu_up (gu_up (gu_up (gu_up G18 6 12 y28) 45 (x77_7.toInt).toNat y30) 46 (x77_7.toInt).toNat p1) 47 (x77_7.toInt).toNat x17_6) 48 (x77_7.toInt).toNat (G 6 13)) (by have h9 := ti_rng x17_6; omega) (gu_I.up (j := 48) (k := (x77_7.toInt).toNat) (v := (G 6 13)) (gu_I.up (j := 47) (k := (x77_7.toInt).toNat) (v := x17_6) (gu_I.up (j := 46) (k := (x77_7.toInt).toNat) (v := p1) (gu_I.up (j := 45) (k := (x77_7.toInt).toNat) (v := y30) (gu_I.up (j := 6) (k := 12) (v := y28) hI19 (ti_rng _).1 (ti_rng _).2) (ti_rng _).1 (ti_rng _).2) (ti_rng _).1 (ti_rng _).2) (ti_rng _).1 (ti_rng _).2) (ti_rng _).1 (ti_rng _).2) (gu_un.up (j := 48) (k := (x77_7.toInt).toNat) (v := (G 6 13)) (gu_un.up (j := 47) (k := (x77_7.toInt).toNat) (v := x17_6) (gu_un.up (j := 46) (k := (x77_7.toInt).toNat) (v := p1) (gu_un.up (j := 45) (k := (x77_7.toInt).toNat) (v := y30) (gu_un.up (j := 6) (k := 12) (v := y28) (gu_un.tr (gu_un.tr gu_un.rf (gu_un.su hU8 rfl)) (gu_un.su hU20 rfl)) (show (613 : Nat) ∈ ([613, 618, 2100, 2700, 4500, 4600, 4700, 4800] : List Nat) by decide)) (show (4500 : Nat) ∈ ([613, 618, 2100, 2700, 4500, 4600, 4700, 4800] : List Nat) by decide)) (show (4600 : Nat) ∈ ([613, 618, 2100, 2700, 4500, 4600, 4700, 4800] : List Nat) by decide)) (show (4700 : Nat) ∈ ([613, 618, 2100, 2700, 4500, 4600, 4700, 4800] : List Nat) by decide)) (show (4800 : Nat) ∈ ([613, 618, 2100, 2700, 4500, 4600, 4700, 4800] : List Nat) by decide))
        · refine g_aload_n F 1 dX5_bite_84 rfl rfl ?_
          refine g_dup F dX5_bite_85 rfl ?_
          refine xg_6_17 F i_X5 w_13 dX5_bite_86 (Gj17 6 17) (rfl) ?_
          refine g_iconst F 1 dX5_bite_89 (by decide) ?_
          refine u_iaddc F dX5_bite_90 (Gj17 6 17).toInt 1 rfl rfl (fun y31 ey31 => ?_)
          refine xp_6_17 F i_X5 w_13 dX5_bite_91 ?_
          refine g_goto F 203 dX5_bite_94 (by decide) ?_
          refine g_locals [(0, .ref (a 6)), (1, .int p0), (2, .int p1), (3, .int p2), (4, .int (G 18 0)), (5, .int x17_5), (6, .int x17_6)] [1, 2, 3, 4, 5, 6, 7] rfl ?_
          exact J_203 x17_5 (gu_up Gj17 6 17 y31) (by have h9 := ti_rng x17_6; omega) (gu_I.up (j := 6) (k := 17) (v := y31) jI17 (ti_rng _).1 (ti_rng _).2) (gu_un.up (j := 6) (k := 17) (v := y31) gu_un.rf (show (618 : Nat) ∈ ([613, 618, 2100, 2700, 4500, 4600, 4700, 4800] : List Nat) by decide))
      refine g_iload F 6 dX5_bite_17 rfl ?_
      refine g_aload_n F 0 dX5_bite_19 rfl rfl ?_
      refine xg_6_7 F i_X5 w_14 dX5_bite_20 (G 6 7) (jU17 6 7 (by decide)) ?_
      have b32 : (0 : Int) ≤ (G 6 7).toInt ∧ (G 6 7).toInt ≤ 4 := hI 6 7
      refine v_icmp_ge F 209 dX5_bite_23 (by decide) x17_6.toInt (G 6 7).toInt rfl rfl (fun c33 => ?_) (fun c33 => ?_)
      · refine g_iload F 5 dX5_bite_209 rfl ?_
        exact u_iret F hA hQ hr Gj17 (⟨jI17, (gu_un.tr gu_un.rf (gu_un.su jU17 rfl))⟩) rfl rfl dX5_bite_211
      · refine g_iload F 6 dX5_bite_26 rfl ?_
        refine g_iconst F 4 dX5_bite_28 (by decide) ?_
        refine v_icmp_ge F 209 dX5_bite_29 (by decide) x17_6.toInt 4 rfl rfl (fun c34 => absurd c34 (by omega)) (fun c34 => ?_)
        refine g_iload_n F 1 dX5_bite_32 rfl rfl ?_
        refine g_aload_n F 0 dX5_bite_33 rfl rfl ?_
        refine xg_6_5 F i_X5 w_15 dX5_bite_34 ?_
        refine g_iload F 6 dX5_bite_37 rfl ?_
        refine u_iald F 44 0 xc_44 rfl x17_6.toInt rfl (by omega) (by omega) dX5_bite_39 (fun z => (0 : Int) ≤ z.toInt ∧ z.toInt ≤ 15) (fun k_ => jI17 44 k_) (fun y35 by35 => ?_)
        refine u_iadd F dX5_bite_40 s0 y35.toInt e0 rfl (by omega) (by omega) (fun y36 ey36 => ?_)
        refine g_iconst F 1 dX5_bite_41 (by decide) ?_
        refine g_iload F 4 dX5_bite_42 rfl ?_
        have b38 : (4 : Int) ≤ (G 18 0).toInt ∧ (G 18 0).toInt ≤ 16 := hI 18 0
        refine u_mmax F w_16 w_17 w_6 w_18 (Nat.le_of_ble_eq_true rfl) (Nat.le_of_ble_eq_true rfl) (Nat.le_of_ble_eq_true rfl) (Nat.le_of_ble_eq_true rfl) dX5_bite_44 1 (G 18 0).toInt rfl rfl (fun y37 ey37 => ?_)
        refine u_call0 (k := 0) (n := 0) (As := [.int y36, .int y37]) (st := []) F (fun sz => S_J9_floorMod_7cf53 l D y36 y36.toInt y37 y37.toInt rfl (by omega) rfl (by omega) sz) (va_cwS 2 hts gX5_bite_J9_floorMod_7cf53 rfl rfl rfl (by decide +kernel) ⟨Nat.le_of_ble_eq_true rfl, Nat.le_of_ble_eq_true rfl⟩) rfl (Nat.le_of_ble_eq_true rfl) ⟨Nat.zero_le _, Nat.zero_le _⟩ dX5_bite_47 (fun r39 _ hw40 => ?_)
        have rg42 := hw40
        clear hw40
        refine g_istore F [(7, .int r39), (0, .ref (a 6)), (1, .int p0), (2, .int p1), (3, .int p2), (4, .int (G 18 0)), (5, .int x17_5), (6, .int x17_6)] dX5_bite_50 (by decide) rfl ?_
        refine g_iload F 0 dX5_bite_52 rfl ?_
        refine g_bipush F 16 dX5_bite_54 (by decide) ?_
        refine v_icmp_ge F 76 dX5_bite_56 (by decide) r39.toInt 16 rfl rfl (fun c43 => absurd c43 (by omega)) (fun c43 => ?_)
        refine g_aload_n F 1 dX5_bite_59 rfl rfl ?_
        refine xg_6_8 F i_X5 w_8 dX5_bite_60 ?_
        refine g_iload F 0 dX5_bite_63 rfl ?_
        refine u_iald F 45 0 xc_45 rfl r39.toInt rfl (by omega) (by omega) dX5_bite_65 (fun _ => True) (fun _ => trivial) (fun y44 by44 => ?_)
        refine g_iload_n F 4 dX5_bite_66 rfl rfl ?_
        refine u0_isub F dX5_bite_67 (fun y45 => ?_)
        refine g_aload_n F 1 dX5_bite_68 rfl rfl ?_
        refine xg_6_13 F i_X5 w_9 dX5_bite_69 (G 6 13) (jU17 6 13 (by decide)) ?_
        refine u0_isub F dX5_bite_72 (fun y46 => ?_)
        refine g_goto F 77 dX5_bite_73 (by decide) ?_
        refine g_locals [(0, .ref (a 6)), (1, .int p0), (2, .int p1), (3, .int p2), (4, .int (G 18 0)), (5, .int x17_5), (6, .int x17_6), (7, .int r39)] [1, 2, 3, 4, 5, 6, 7, 0] rfl ?_
        exact J_77 r39 y46 (by have h9 := ti_rng x17_6; omega) (by have h9 := ti_rng r39; omega)
  refine g_aload_n F 0 dX5_bite_0 rfl rfl ?_
  refine xg_6_0 F i_X5 w_0 dX5_bite_1 ?_
  refine xg_2_0 F i_X7 w_19 dX5_bite_4 ?_
  refine g_iconst F 0 dX5_bite_7 (by decide) ?_
  refine u1_iald F 18 0 xc_18 rfl 0 rfl (by decide) (by decide) dX5_bite_8 (G 18 0) (rfl) ?_
  refine g_istore F [(4, .int (G 18 0)), (0, .ref (a 6)), (1, .int p0), (2, .int p1), (3, .int p2)] dX5_bite_9 (by decide) rfl ?_
  refine g_iconst F 0 dX5_bite_11 (by decide) ?_
  refine g_istore F [(5, .int 0), (4, .int (G 18 0)), (0, .ref (a 6)), (1, .int p0), (2, .int p1), (3, .int p2)] dX5_bite_12 (by decide) rfl ?_
  refine g_iconst F 0 dX5_bite_14 (by decide) ?_
  refine g_istore F [(6, .int 0), (5, .int 0), (4, .int (G 18 0)), (0, .ref (a 6)), (1, .int p0), (2, .int p1), (3, .int p2)] dX5_bite_15 (by decide) rfl ?_
  refine g_locals [(0, .ref (a 6)), (1, .int p0), (2, .int p1), (3, .int p2), (4, .int (G 18 0)), (5, .int 0), (6, .int 0)] [3, 4, 5, 6, 2, 1, 0] rfl ?_
  exact J_17 _ 0 0 G (Nat.lt_succ_self _) (by decide) hI gu_un.rf


set_option maxHeartbeats 4000000 in
set_option maxRecDepth 100000 in
theorem S_X5_least_45 (l : Launch) (D : va_G) (K : Nat → ClassId) (a : Nat → Nat) (G : gS) (p1 : Int32) (s1 : Int) (p2 : Int32) (s2 : Int) (e1 : p1.toInt = s1) (e2 : p2.toInt = s2) (hI : xI G) (sz : Nat) : Ki l yX5_least wsX5_least 1 40 0 0 D [.ref (a 45), .int p1, .int p2] (xW K a G) (tK K) sz (fun (r : Int32) (_ : Unit) => ((-2147483648) ≤ r.toInt ∧ r.toInt ≤ 1000000)) (fun (_ : Unit) => (xW K a G)) (fun _ => (tK K)) := by
  unfold Ki
  refine g_ofW (cc := cX5_least) (lv := [(0, .ref (a 45)), (1, .int p1), (2, .int p2)]) (by decide) rfl (Nat.le_of_ble_eq_true rfl) rfl ?_
  intro p e s m args below meth c A Q hA hQ F hr hnm
  have hts := F.2.2.2.2.1
  have w_0 : (Cond.methodLink RX5 159 Lib.Math.min.name).before args s = true := hts _ (List.mem_of_getElem? (i := 2) rfl)
  have w_1 : (Cond.static Lib.Math.min.name).before args s = true := hts _ (List.mem_of_getElem? (i := 3) rfl)
  have w_2 : (Cond.initialized "java/lang/Math").before args s = true := hts _ (List.mem_of_getElem? (i := 4) rfl)
  have w_3 : (Cond.code Lib.Math.min.name Lib.Math.min.code 2 (some .int)).before args s = true := hts _ (List.mem_of_getElem? (i := 5) rfl)
  have w_4 : (Cond.constant RX5 163 (1000000)).before args s = true := hts _ (List.mem_of_getElem? (i := 1) rfl)
  have rg1 : -2147483648 ≤ s1 ∧ s1 ≤ 2147483647 := e1 ▸ ti_rng p1
  have rg2 : -2147483648 ≤ s2 ∧ s2 ≤ 2147483647 := e2 ▸ ti_rng p2
  have J_6 : ∀ (fuel : Nat) (x6_3 : Int32) (x6_4 : Int32), (2147483647 - x6_4.toInt).toNat < fuel → ((-2147483648) ≤ x6_3.toInt ∧ x6_3.toInt ≤ 1000000) → gG p l e (gR 1 0 0 40) s m args below meth c D A 5 Q 0 0 (xW K a G) (tK K) [(0, .ref (a 45)), (1, .int p1), (2, .int p2), (3, .int x6_3), (4, .int x6_4)] 6 [] := by
    intro fuel
    induction fuel with
    | zero => intro x6_3 x6_4 hm; exact absurd hm (Nat.not_lt_zero _)
    | succ fuel_6 ih_6 =>
      intro x6_3 x6_4 hm_6 h6_3
      refine g_iload F 4 dX5_least_6 rfl ?_
      refine g_iload_n F 1 dX5_least_8 rfl rfl ?_
      refine g_iload_n F 2 dX5_least_9 rfl rfl ?_
      refine u0_iadd F dX5_least_10 (fun y1 => ?_)
      have b2 := ti_rng x6_4
      have b3 := ti_rng y1
      refine v_icmp_ge F 41 dX5_least_11 (by decide) x6_4.toInt y1.toInt rfl rfl (fun c4 => ?_) (fun c4 => ?_)
      · refine g_iload_n F 3 dX5_least_41 rfl rfl ?_
        have b5 := ti_rng x6_3
        exact u_iret F hA hQ hr () ((by have h9 := ti_rng x6_3; omega)) rfl rfl dX5_least_42
      · refine g_iload F 4 dX5_least_14 rfl ?_
        refine v_if_lt F 41 dX5_least_16 (by decide) x6_4.toInt rfl (fun c6 => ?_) (fun c6 => ?_)
        · refine g_iload_n F 3 dX5_least_41 rfl rfl ?_
          have b7 := ti_rng x6_3
          exact u_iret F hA hQ hr () ((by have h9 := ti_rng x6_3; omega)) rfl rfl dX5_least_42
        · refine g_iload F 4 dX5_least_19 rfl ?_
          refine g_aload_n F 0 dX5_least_21 rfl rfl ?_
          refine g_alen F 45 0 xc_45 rfl 16 rfl dX5_least_22 ?_
          refine v_icmp_ge F 41 dX5_least_23 (by decide) x6_4.toInt 16 rfl rfl (fun c8 => ?_) (fun c8 => ?_)
          · refine g_iload_n F 3 dX5_least_41 rfl rfl ?_
            have b9 := ti_rng x6_3
            exact u_iret F hA hQ hr () ((by have h9 := ti_rng x6_3; omega)) rfl rfl dX5_least_42
          · refine g_iload_n F 3 dX5_least_26 rfl rfl ?_
            refine g_aload_n F 0 dX5_least_27 rfl rfl ?_
            refine g_iload F 4 dX5_least_28 rfl ?_
            refine u_iald F 45 0 xc_45 rfl x6_4.toInt rfl (by omega) (by omega) dX5_least_30 (fun _ => True) (fun _ => trivial) (fun y10 by10 => ?_)
            have b12 := ti_rng x6_3
            refine u_mmin F w_0 w_1 w_2 w_3 (Nat.le_of_ble_eq_true rfl) (Nat.le_of_ble_eq_true rfl) (Nat.le_of_ble_eq_true rfl) (Nat.le_of_ble_eq_true rfl) dX5_least_31 x6_3.toInt y10.toInt rfl rfl (fun y11 ey11 => ?_)
            refine g_istore_n F [(3, .int y11), (0, .ref (a 45)), (1, .int p1), (2, .int p2), (4, .int x6_4)] dX5_least_34 rfl (by decide) rfl ?_
            refine u_iinc F (fun v_ => [(4, .int v_), (3, .int y11), (0, .ref (a 45)), (1, .int p1), (2, .int p2)]) dX5_least_35 (j := 4) rfl x6_4.toInt 1 rfl rfl (by omega) (by omega) (by decide) (fun _ => rfl) (fun y13 ey13 => ?_)
            refine g_goto F 6 dX5_least_38 (by decide) ?_
            refine g_locals [(0, .ref (a 45)), (1, .int p1), (2, .int p2), (3, .int y11), (4, .int y13)] [2, 3, 4, 1, 0] rfl ?_
            exact ih_6 y11 y13 (by omega) (by have h9 := ti_rng y11; omega)
  refine g_ldc F w_4 dX5_least_0 ?_
  refine g_istore_n F [(3, .int 1000000), (0, .ref (a 45)), (1, .int p1), (2, .int p2)] dX5_least_2 rfl (by decide) rfl ?_
  refine g_iload_n F 2 dX5_least_3 rfl rfl ?_
  refine g_istore F [(4, .int p1), (3, .int 1000000), (0, .ref (a 45)), (1, .int p1), (2, .int p2)] dX5_least_4 (by decide) rfl ?_
  refine g_locals [(0, .ref (a 45)), (1, .int p1), (2, .int p2), (3, .int 1000000), (4, .int p1)] [2, 3, 4, 1, 0] rfl ?_
  exact J_6 _ 1000000 p1 (Nat.lt_succ_self _) (by decide)


set_option maxHeartbeats 4000000 in
set_option maxRecDepth 100000 in
theorem S_X3_value_12 (l : Launch) (D : va_G) (K : Nat → ClassId) (a : Nat → Nat) (G : gS) (p0 : Int32) (s0 : Int) (p1 : Int32) (s1 : Int) (e0 : p0.toInt = s0) (e1 : p1.toInt = s1) (hI : xI G) (sz : Nat) : Ki l yX3_value wsX3_value 2 62 0 0 D [.ref (a 12), .int p0, .int p1] (xW K a G) (tK K) sz (fun (r : Int32) (G' : gS) => (xI G') ∧ (gu_un xcd [2400] G G') ∧ ((gcOK (tkr (G 23) ((G 12 1).toInt).toNat) → r.toInt = (eV p0 p1 (tkr (G 23) ((G 12 1).toInt).toNat)).toInt))) (fun (G' : gS) => (xW K a G')) (fun _ => (tK K)) := by
  unfold Ki
  refine g_ofW (cc := cX3_value) (lv := [(0, .ref (a 12)), (1, .int p0), (2, .int p1)]) (by decide) rfl (Nat.le_of_ble_eq_true rfl) rfl ?_
  intro p e s m args below meth c A Q hA hQ F hr hnm
  have hts := F.2.2.2.2.1
  have w_0 : (Cond.fieldLink RX3 21 "QuietCut$Formula" "length" "I").before args s = true := hts _ (List.mem_of_getElem? (i := 1) rfl)
  have i_X3 : ∀ w ∈ u_ws RX3 TX3 9, w ∈ wsX3_value := fun _ h => List.mem_cons_of_mem _ (List.mem_append_right _ h)
  have w_1 : (Cond.fieldLink RX3 15 "QuietCut$Formula" "stack" "[I").before args s = true := hts _ (List.mem_of_getElem? (i := 3) rfl)
  have w_2 : (Cond.fieldLink RX3 11 "QuietCut$Formula" "codes" "[I").before args s = true := hts _ (List.mem_of_getElem? (i := 2) rfl)
  have rg0 : -2147483648 ≤ s0 ∧ s0 ≤ 2147483647 := e0 ▸ ti_rng p0
  have rg1 : -2147483648 ≤ s1 ∧ s1 ≤ 2147483647 := e1 ▸ ti_rng p1
  have b1 : (0 : Int) ≤ (G 12 1).toInt ∧ (G 12 1).toInt ≤ 80 := hI 12 1
  have J_5 : ∀ (fuel : Nat) (x5_3 : Int32) (x5_4 : Int32) (Gj5 : gS), (2147483647 - x5_4.toInt).toNat < fuel → (0 ≤ x5_3.toInt ∧ x5_3.toInt ≤ 12) → (0 ≤ x5_4.toInt ∧ x5_4.toInt ≤ 80) → (xI Gj5) → (gu_un xcd [2400] G Gj5) → (gcOK (tkr (G 23) ((G 12 1).toInt).toNat) → skr (Gj5 24) (x5_3.toInt).toNat = eS p0 p1 (tkr (G 23) (x5_4.toInt).toNat)) → ((x5_4.toInt ≤ (G 12 1).toInt)) → gG p l e (gR 2 0 0 62) s m args below meth c D A 6 Q 0 0 (xW K a Gj5) (tK K) [(0, .ref (a 12)), (1, .int p0), (2, .int p1), (3, .int x5_3), (4, .int x5_4)] 5 [] := by
    intro fuel
    induction fuel with
    | zero => intro x5_3 x5_4 Gj5 hm; exact absurd hm (Nat.not_lt_zero _)
    | succ fuel_5 ih_5 =>
      intro x5_3 x5_4 Gj5 hm_5 h5_3 h5_4 jI5 jU5 ev il
      refine g_iload F 4 dX3_value_5 rfl ?_
      refine g_aload_n F 0 dX3_value_7 rfl rfl ?_
      refine xg_12_1 F i_X3 w_0 dX3_value_8 (G 12 1) (jU5 12 1 (by decide)) ?_
      refine v_icmp_ge F 160 dX3_value_11 (by decide) x5_4.toInt (G 12 1).toInt rfl rfl (fun c2 => ?_) (fun c2 => ?_)
      · refine g_iload_n F 3 dX3_value_160 rfl rfl ?_
        refine g_iconst F 1 dX3_value_161 (by decide) ?_
        refine v_icmp_ne F 174 dX3_value_162 (by decide) x5_3.toInt 1 rfl rfl (fun c3 => ?_) (fun c3 => ?_)
        · refine g_iconst F 0 dX3_value_174 (by decide) ?_
          exact u_iret F hA hQ hr Gj5 (⟨jI5, (gu_un.tr gu_un.rf (gu_un.su jU5 rfl)), (fun hg => by have h9 := vFin hg (by omega) (i := x5_4.toInt) (by omega) (ev hg); first | (rw [h9.2]; done) | (have h8 := h9.1; exfalso; omega))⟩) rfl rfl dX3_value_175
        · refine g_aload_n F 0 dX3_value_165 rfl rfl ?_
          refine xg_12_2 F i_X3 w_1 dX3_value_166 ?_
          refine g_iconst F 0 dX3_value_169 (by decide) ?_
          refine u1_iald F 24 0 xc_24 rfl 0 rfl (by decide) (by decide) dX3_value_170 (Gj5 24 0) (rfl) ?_
          refine g_goto F 175 dX3_value_171 (by decide) ?_
          exact u_iret F hA hQ hr Gj5 (⟨jI5, (gu_un.tr gu_un.rf (gu_un.su jU5 rfl)), (fun hg => by have h9 := vFin hg (by omega) (i := x5_4.toInt) (by omega) (ev hg); first | (rw [h9.2]; done) | (have h8 := h9.1; exfalso; omega))⟩) rfl rfl dX3_value_175
      · refine g_iload F 4 dX3_value_14 rfl ?_
        refine g_bipush F 80 dX3_value_16 (by decide) ?_
        refine v_icmp_ge F 160 dX3_value_18 (by decide) x5_4.toInt 80 rfl rfl (fun c4 => absurd c4 (by omega)) (fun c4 => ?_)
        refine g_aload_n F 0 dX3_value_21 rfl rfl ?_
        refine xg_12_0 F i_X3 w_2 dX3_value_22 ?_
        refine g_iload F 4 dX3_value_25 rfl ?_
        refine u1_iald F 23 0 xc_23 rfl x5_4.toInt rfl (by omega) (by omega) dX3_value_27 ((G 23) (x5_4.toInt).toNat) (congrFun ((show Gj5 23 = G 23 from funext fun k_ => jU5 23 k_ (show (2300 : Nat) ∉ ([2400] : List Nat) by decide))) _) ?_
        refine g_istore F [(5, .int ((G 23) (x5_4.toInt).toNat)), (0, .ref (a 12)), (1, .int p0), (2, .int p1), (3, .int x5_3), (4, .int x5_4)] dX3_value_28 (by decide) rfl ?_
        refine g_iload F 0 dX3_value_30 rfl ?_
        refine g_bipush F (-2) dX3_value_32 (by decide) ?_
        refine v_icmp_lt F 80 dX3_value_34 (by decide) ((G 23) (x5_4.toInt).toNat).toInt (-2) rfl rfl (fun c5 => ?_) (fun c5 => ?_)
        · refine g_iload F 0 dX3_value_80 rfl ?_
          refine g_bipush F (-3) dX3_value_82 (by decide) ?_
          have b6 := ti_rng ((G 23) (x5_4.toInt).toNat)
          refine v_icmp_ne F 114 dX3_value_84 (by decide) ((G 23) (x5_4.toInt).toNat).toInt (-3) rfl rfl (fun c7 => ?_) (fun c7 => ?_)
          · refine g_iload_n F 4 dX3_value_114 rfl rfl ?_
            refine g_iconst F 2 dX3_value_115 (by decide) ?_
            refine v_icmp_ge F 121 dX3_value_116 (by decide) x5_3.toInt 2 rfl rfl (fun c8 => ?_) (fun c8 => ?_)
            · refine u_iinc F (fun v_ => [(3, .int v_), (5, .int ((G 23) (x5_4.toInt).toNat)), (0, .ref (a 12)), (1, .int p0), (2, .int p1), (4, .int x5_4)]) dX3_value_121 (j := 4) rfl x5_3.toInt (-1) rfl rfl (by omega) (by omega) (by decide) (fun _ => rfl) (fun y9 ey9 => ?_)
              refine g_aload_n F 2 dX3_value_124 rfl rfl ?_
              refine xg_12_2 F i_X3 w_1 dX3_value_125 ?_
              refine g_iload_n F 0 dX3_value_128 rfl rfl ?_
              refine g_iconst F 1 dX3_value_129 (by decide) ?_
              refine u_isub F dX3_value_130 y9.toInt 1 rfl rfl (by omega) (by omega) (fun y10 ey10 => ?_)
              refine g_bipush F (-3) dX3_value_131 (by decide) ?_
              refine g_iload F 1 dX3_value_133 rfl ?_
              refine u_isub F dX3_value_135 (-3) ((G 23) (x5_4.toInt).toNat).toInt rfl rfl (by omega) (by omega) (fun y11 ey11 => ?_)
              refine g_aload_n F 2 dX3_value_136 rfl rfl ?_
              refine xg_12_2 F i_X3 w_1 dX3_value_137 ?_
              refine g_iload_n F 0 dX3_value_140 rfl rfl ?_
              refine g_iconst F 1 dX3_value_141 (by decide) ?_
              refine u_isub F dX3_value_142 y9.toInt 1 rfl rfl (by omega) (by omega) (fun y12 ey12 => ?_)
              refine u1_iald F 24 0 xc_24 rfl y12.toInt rfl (by omega) (by omega) dX3_value_143 ((Gj5 24) ((y9.toInt - 1)).toNat) (by rw [show y12.toInt = (y9.toInt - 1) by omega] <;> rfl) ?_
              refine g_aload_n F 2 dX3_value_144 rfl rfl ?_
              refine xg_12_2 F i_X3 w_1 dX3_value_145 ?_
              refine g_iload_n F 0 dX3_value_148 rfl rfl ?_
              refine u1_iald F 24 0 xc_24 rfl y9.toInt rfl (by omega) (by omega) dX3_value_149 ((Gj5 24) (y9.toInt).toNat) (rfl) ?_
              refine u_call0 (k := 0) (n := 0) (As := [.int y11, .int ((Gj5 24) ((y9.toInt - 1)).toNat), .int ((Gj5 24) (y9.toInt).toNat)]) (st := [.int y10, .ref (a 24)]) F (fun sz => S_X3_joined l D y11 y11.toInt ((Gj5 24) ((y9.toInt - 1)).toNat) ((Gj5 24) ((y9.toInt - 1)).toNat).toInt ((Gj5 24) (y9.toInt).toNat) ((Gj5 24) (y9.toInt).toNat).toInt rfl rfl rfl sz) (va_cwS 3 hts gX3_value_X3_joined rfl rfl rfl (by decide +kernel) ⟨Nat.le_of_ble_eq_true rfl, Nat.le_of_ble_eq_true rfl⟩) rfl (Nat.le_of_ble_eq_true rfl) ⟨Nat.zero_le _, Nat.zero_le _⟩ dX3_value_150 (fun r13 _ hw14 => ?_)
              have q16 : (r13.toInt = (eJ y11.toInt ((Gj5 24) ((y9.toInt - 1)).toNat) ((Gj5 24) (y9.toInt).toNat)).toInt) := hw14
              clear hw14
              refine u_iast F 24 0 xc_24 rfl y10.toInt rfl (by omega) (by omega) (xW K a (gu_up Gj5 24 (y10.toInt).toNat r13)) (xs_24 _) dX3_value_153 ?_
              refine u_iinc F (fun v_ => [(4, .int v_), (3, .int y9), (5, .int ((G 23) (x5_4.toInt).toNat)), (0, .ref (a 12)), (1, .int p0), (2, .int p1)]) dX3_value_154 (j := 5) rfl x5_4.toInt 1 rfl rfl (by omega) (by omega) (by decide) (fun _ => rfl) (fun y17 ey17 => ?_)
              refine g_goto F 5 dX3_value_157 (by decide) ?_
              refine g_locals [(0, .ref (a 12)), (1, .int p0), (2, .int p1), (3, .int y9), (4, .int y17)] [3, 4, 5, 1, 0] rfl ?_
              exact ih_5 y9 y17 (gu_up Gj5 24 (y10.toInt).toNat r13) (by omega) (by have h9 := ti_rng y9; omega) (by have h9 := ti_rng y17; omega) (gu_I.up (j := 24) (k := (y10.toInt).toNat) (v := r13) jI5 (ti_rng _).1 (ti_rng _).2) (gu_un.up (j := 24) (k := (y10.toInt).toNat) (v := r13) (gu_un.tr gu_un.rf (gu_un.su jU5 rfl)) (show (2400 : Nat) ∈ ([2400] : List Nat) by decide)) (fun hg => by rw [tkr_nx (f := G 23) (i := x5_4.toInt) (by omega) (by omega)]; have hsg := vSg (vAt hg (i := x5_4.toInt) (by omega) (by omega)) (by omega); exact vJoin (ev hg) (by omega) (show (gu_up Gj5 24 (y10.toInt).toNat r13) 24 = (upd (Gj5 24) (y10.toInt).toNat r13) from rfl) q16 (by omega) (by omega) (by omega) (by omega) (by omega) (by omega)) (by have h9 := (show (0 : Int) ≤ (G 12 1).toInt ∧ (G 12 1).toInt ≤ 80 from hI 12 1); (first | omega | (simp only [Int32.reduceToInt, true_and, and_true, ne_eq, not_true_eq_false, false_and, or_false, false_or, true_or, or_true, false_implies] <;> omega)))
            · refine g_iconst F 0 dX3_value_119 (by decide) ?_
              exact u_iret F hA hQ hr Gj5 (⟨jI5, (gu_un.tr gu_un.rf (gu_un.su jU5 rfl)), (fun hg => (vE3 hg (i := x5_4.toInt) (by omega) (by omega) (ev hg) (by omega) (by omega)).elim)⟩) rfl rfl dX3_value_120
          · refine g_iload_n F 4 dX3_value_87 rfl rfl ?_
            refine g_iconst F 1 dX3_value_88 (by decide) ?_
            refine v_icmp_ge F 94 dX3_value_89 (by decide) x5_3.toInt 1 rfl rfl (fun c18 => ?_) (fun c18 => ?_)
            · refine g_aload_n F 1 dX3_value_94 rfl rfl ?_
              refine xg_12_2 F i_X3 w_1 dX3_value_95 ?_
              refine g_iload_n F 4 dX3_value_98 rfl rfl ?_
              refine g_iconst F 1 dX3_value_99 (by decide) ?_
              refine u_isub F dX3_value_100 x5_3.toInt 1 rfl rfl (by omega) (by omega) (fun y19 ey19 => ?_)
              refine g_aload_n F 1 dX3_value_101 rfl rfl ?_
              refine xg_12_2 F i_X3 w_1 dX3_value_102 ?_
              refine g_iload_n F 4 dX3_value_105 rfl rfl ?_
              refine g_iconst F 1 dX3_value_106 (by decide) ?_
              refine u_isub F dX3_value_107 x5_3.toInt 1 rfl rfl (by omega) (by omega) (fun y20 ey20 => ?_)
              refine u1_iald F 24 0 xc_24 rfl y20.toInt rfl (by omega) (by omega) dX3_value_108 ((Gj5 24) ((x5_3.toInt - 1)).toNat) (by rw [show y20.toInt = (x5_3.toInt - 1) by omega] <;> rfl) ?_
              refine g_ineg F dX3_value_109 ?_
              have ng22 : -2147483648 < ((Gj5 24) ((x5_3.toInt - 1)).toNat).toInt → ((-((Gj5 24) ((x5_3.toInt - 1)).toNat)) : Int32).toInt = -((Gj5 24) ((x5_3.toInt - 1)).toNat).toInt := fun h9 => ti_neg rfl h9
              refine u_iast F 24 0 xc_24 rfl y19.toInt rfl (by omega) (by omega) (xW K a (gu_up Gj5 24 (y19.toInt).toNat (-((Gj5 24) ((x5_3.toInt - 1)).toNat)))) (xs_24 _) dX3_value_110 ?_
              refine g_goto F 154 dX3_value_111 (by decide) ?_
              refine u_iinc F (fun v_ => [(4, .int v_), (5, .int ((G 23) (x5_4.toInt).toNat)), (0, .ref (a 12)), (1, .int p0), (2, .int p1), (3, .int x5_3)]) dX3_value_154 (j := 5) rfl x5_4.toInt 1 rfl rfl (by omega) (by omega) (by decide) (fun _ => rfl) (fun y23 ey23 => ?_)
              refine g_goto F 5 dX3_value_157 (by decide) ?_
              refine g_locals [(0, .ref (a 12)), (1, .int p0), (2, .int p1), (3, .int x5_3), (4, .int y23)] [2, 3, 4, 5, 0] rfl ?_
              exact ih_5 x5_3 y23 (gu_up Gj5 24 (y19.toInt).toNat (-((Gj5 24) ((x5_3.toInt - 1)).toNat))) (by omega) (by have h9 := ti_rng x5_3; omega) (by have h9 := ti_rng y23; omega) (gu_I.up (j := 24) (k := (y19.toInt).toNat) (v := (-((Gj5 24) ((x5_3.toInt - 1)).toNat))) jI5 (ti_rng _).1 (ti_rng _).2) (gu_un.up (j := 24) (k := (y19.toInt).toNat) (v := (-((Gj5 24) ((x5_3.toInt - 1)).toNat))) (gu_un.tr gu_un.rf (gu_un.su jU5 rfl)) (show (2400 : Nat) ∈ ([2400] : List Nat) by decide)) (fun hg => by rw [tkr_nx (f := G 23) (i := x5_4.toInt) (by omega) (by omega)]; exact vNeg (ev hg) (by omega) (show (gu_up Gj5 24 (y19.toInt).toNat (-((Gj5 24) ((x5_3.toInt - 1)).toNat))) 24 = (upd (Gj5 24) (y19.toInt).toNat (-((Gj5 24) ((x5_3.toInt - 1)).toNat))) from rfl) (by omega) (by omega) (by omega)) (by have h9 := (show (0 : Int) ≤ (G 12 1).toInt ∧ (G 12 1).toInt ≤ 80 from hI 12 1); (first | omega | (simp only [Int32.reduceToInt, true_and, and_true, ne_eq, not_true_eq_false, false_and, or_false, false_or, true_or, or_true, false_implies] <;> omega)))
            · refine g_iconst F 0 dX3_value_92 (by decide) ?_
              exact u_iret F hA hQ hr Gj5 (⟨jI5, (gu_un.tr gu_un.rf (gu_un.su jU5 rfl)), (fun hg => (vE2 hg (i := x5_4.toInt) (by omega) (by omega) (ev hg) (by omega) (by omega)).elim)⟩) rfl rfl dX3_value_93
        · refine g_iload_n F 4 dX3_value_37 rfl rfl ?_
          refine g_bipush F 12 dX3_value_38 (by decide) ?_
          refine v_icmp_lt F 45 dX3_value_40 (by decide) x5_3.toInt 12 rfl rfl (fun c24 => ?_) (fun c24 => ?_)
          · refine g_aload_n F 1 dX3_value_45 rfl rfl ?_
            refine xg_12_2 F i_X3 w_1 dX3_value_46 ?_
            refine g_iload_n F 4 dX3_value_49 rfl rfl ?_
            refine g_iload F 0 dX3_value_50 rfl ?_
            refine g_iconst F (-1) dX3_value_52 (by decide) ?_
            have b25 := ti_rng ((G 23) (x5_4.toInt).toNat)
            refine v_icmp_ne F 60 dX3_value_53 (by decide) ((G 23) (x5_4.toInt).toNat).toInt (-1) rfl rfl (fun c26 => ?_) (fun c26 => ?_)
            · refine g_iload F 0 dX3_value_60 rfl ?_
              refine g_bipush F (-2) dX3_value_62 (by decide) ?_
              refine v_icmp_ne F 71 dX3_value_64 (by decide) ((G 23) (x5_4.toInt).toNat).toInt (-2) rfl rfl (fun c27 => ?_) (fun c27 => ?_)
              · refine g_iload F 0 dX3_value_71 rfl ?_
                refine u_iast F 24 0 xc_24 rfl x5_3.toInt rfl (by omega) (by omega) (xW K a (gu_up Gj5 24 (x5_3.toInt).toNat ((G 23) (x5_4.toInt).toNat))) (xs_24 _) dX3_value_73 ?_
                refine u_iinc F (fun v_ => [(3, .int v_), (5, .int ((G 23) (x5_4.toInt).toNat)), (0, .ref (a 12)), (1, .int p0), (2, .int p1), (4, .int x5_4)]) dX3_value_74 (j := 4) rfl x5_3.toInt 1 rfl rfl (by omega) (by omega) (by decide) (fun _ => rfl) (fun y28 ey28 => ?_)
                refine g_goto F 154 dX3_value_77 (by decide) ?_
                refine u_iinc F (fun v_ => [(4, .int v_), (3, .int y28), (5, .int ((G 23) (x5_4.toInt).toNat)), (0, .ref (a 12)), (1, .int p0), (2, .int p1)]) dX3_value_154 (j := 5) rfl x5_4.toInt 1 rfl rfl (by omega) (by omega) (by decide) (fun _ => rfl) (fun y29 ey29 => ?_)
                refine g_goto F 5 dX3_value_157 (by decide) ?_
                refine g_locals [(0, .ref (a 12)), (1, .int p0), (2, .int p1), (3, .int y28), (4, .int y29)] [3, 4, 5, 1, 0] rfl ?_
                exact ih_5 y28 y29 (gu_up Gj5 24 (x5_3.toInt).toNat ((G 23) (x5_4.toInt).toNat)) (by omega) (by have h9 := ti_rng y28; omega) (by have h9 := ti_rng y29; omega) (gu_I.up (j := 24) (k := (x5_3.toInt).toNat) (v := ((G 23) (x5_4.toInt).toNat)) jI5 (ti_rng _).1 (ti_rng _).2) (gu_un.up (j := 24) (k := (x5_3.toInt).toNat) (v := ((G 23) (x5_4.toInt).toNat)) (gu_un.tr gu_un.rf (gu_un.su jU5 rfl)) (show (2400 : Nat) ∈ ([2400] : List Nat) by decide)) (fun hg => by rw [tkr_nx (f := G 23) (i := x5_4.toInt) (by omega) (by omega)]; exact vPush (ev hg) (by omega) (by omega) (show (gu_up Gj5 24 (x5_3.toInt).toNat ((G 23) (x5_4.toInt).toNat)) 24 = (upd (Gj5 24) (x5_3.toInt).toNat ((G 23) (x5_4.toInt).toNat)) from rfl) (by first | exact eP_1 (by omega) | exact eP_2 (by omega) | exact eP_3 (by omega) (by omega) (by omega)) (by omega)) (by have h9 := (show (0 : Int) ≤ (G 12 1).toInt ∧ (G 12 1).toInt ≤ 80 from hI 12 1); (first | omega | (simp only [Int32.reduceToInt, true_and, and_true, ne_eq, not_true_eq_false, false_and, or_false, false_or, true_or, or_true, false_implies] <;> omega)))
              · refine g_iload_n F 3 dX3_value_67 rfl rfl ?_
                refine g_goto F 73 dX3_value_68 (by decide) ?_
                refine u_iast F 24 0 xc_24 rfl x5_3.toInt rfl (by omega) (by omega) (xW K a (gu_up Gj5 24 (x5_3.toInt).toNat p1)) (xs_24 _) dX3_value_73 ?_
                refine u_iinc F (fun v_ => [(3, .int v_), (5, .int ((G 23) (x5_4.toInt).toNat)), (0, .ref (a 12)), (1, .int p0), (2, .int p1), (4, .int x5_4)]) dX3_value_74 (j := 4) rfl x5_3.toInt 1 rfl rfl (by omega) (by omega) (by decide) (fun _ => rfl) (fun y30 ey30 => ?_)
                refine g_goto F 154 dX3_value_77 (by decide) ?_
                refine u_iinc F (fun v_ => [(4, .int v_), (3, .int y30), (5, .int ((G 23) (x5_4.toInt).toNat)), (0, .ref (a 12)), (1, .int p0), (2, .int p1)]) dX3_value_154 (j := 5) rfl x5_4.toInt 1 rfl rfl (by omega) (by omega) (by decide) (fun _ => rfl) (fun y31 ey31 => ?_)
                refine g_goto F 5 dX3_value_157 (by decide) ?_
                refine g_locals [(0, .ref (a 12)), (1, .int p0), (2, .int p1), (3, .int y30), (4, .int y31)] [3, 4, 5, 1, 0] rfl ?_
                exact ih_5 y30 y31 (gu_up Gj5 24 (x5_3.toInt).toNat p1) (by omega) (by have h9 := ti_rng y30; omega) (by have h9 := ti_rng y31; omega) (gu_I.up (j := 24) (k := (x5_3.toInt).toNat) (v := p1) jI5 (ti_rng _).1 (ti_rng _).2) (gu_un.up (j := 24) (k := (x5_3.toInt).toNat) (v := p1) (gu_un.tr gu_un.rf (gu_un.su jU5 rfl)) (show (2400 : Nat) ∈ ([2400] : List Nat) by decide)) (fun hg => by rw [tkr_nx (f := G 23) (i := x5_4.toInt) (by omega) (by omega)]; exact vPush (ev hg) (by omega) (by omega) (show (gu_up Gj5 24 (x5_3.toInt).toNat p1) 24 = (upd (Gj5 24) (x5_3.toInt).toNat p1) from rfl) (by first | exact eP_1 (by omega) | exact eP_2 (by omega) | exact eP_3 (by omega) (by omega) (by omega)) (by omega)) (by have h9 := (show (0 : Int) ≤ (G 12 1).toInt ∧ (G 12 1).toInt ≤ 80 from hI 12 1); (first | omega | (simp only [Int32.reduceToInt, true_and, and_true, ne_eq, not_true_eq_false, false_and, or_false, false_or, true_or, or_true, false_implies] <;> omega)))
            · refine g_iload_n F 2 dX3_value_56 rfl rfl ?_
              refine g_goto F 73 dX3_value_57 (by decide) ?_
              refine u_iast F 24 0 xc_24 rfl x5_3.toInt rfl (by omega) (by omega) (xW K a (gu_up Gj5 24 (x5_3.toInt).toNat p0)) (xs_24 _) dX3_value_73 ?_
              refine u_iinc F (fun v_ => [(3, .int v_), (5, .int ((G 23) (x5_4.toInt).toNat)), (0, .ref (a 12)), (1, .int p0), (2, .int p1), (4, .int x5_4)]) dX3_value_74 (j := 4) rfl x5_3.toInt 1 rfl rfl (by omega) (by omega) (by decide) (fun _ => rfl) (fun y32 ey32 => ?_)
              refine g_goto F 154 dX3_value_77 (by decide) ?_
              refine u_iinc F (fun v_ => [(4, .int v_), (3, .int y32), (5, .int ((G 23) (x5_4.toInt).toNat)), (0, .ref (a 12)), (1, .int p0), (2, .int p1)]) dX3_value_154 (j := 5) rfl x5_4.toInt 1 rfl rfl (by omega) (by omega) (by decide) (fun _ => rfl) (fun y33 ey33 => ?_)
              refine g_goto F 5 dX3_value_157 (by decide) ?_
              refine g_locals [(0, .ref (a 12)), (1, .int p0), (2, .int p1), (3, .int y32), (4, .int y33)] [3, 4, 5, 1, 0] rfl ?_
              exact ih_5 y32 y33 (gu_up Gj5 24 (x5_3.toInt).toNat p0) (by omega) (by have h9 := ti_rng y32; omega) (by have h9 := ti_rng y33; omega) (gu_I.up (j := 24) (k := (x5_3.toInt).toNat) (v := p0) jI5 (ti_rng _).1 (ti_rng _).2) (gu_un.up (j := 24) (k := (x5_3.toInt).toNat) (v := p0) (gu_un.tr gu_un.rf (gu_un.su jU5 rfl)) (show (2400 : Nat) ∈ ([2400] : List Nat) by decide)) (fun hg => by rw [tkr_nx (f := G 23) (i := x5_4.toInt) (by omega) (by omega)]; exact vPush (ev hg) (by omega) (by omega) (show (gu_up Gj5 24 (x5_3.toInt).toNat p0) 24 = (upd (Gj5 24) (x5_3.toInt).toNat p0) from rfl) (by first | exact eP_1 (by omega) | exact eP_2 (by omega) | exact eP_3 (by omega) (by omega) (by omega)) (by omega)) (by have h9 := (show (0 : Int) ≤ (G 12 1).toInt ∧ (G 12 1).toInt ≤ 80 from hI 12 1); (first | omega | (simp only [Int32.reduceToInt, true_and, and_true, ne_eq, not_true_eq_false, false_and, or_false, false_or, true_or, or_true, false_implies] <;> omega)))
          · refine g_iconst F 0 dX3_value_43 (by decide) ?_
            exact u_iret F hA hQ hr Gj5 (⟨jI5, (gu_un.tr gu_un.rf (gu_un.su jU5 rfl)), (fun hg => (vE1 hg (i := x5_4.toInt) (by omega) (by omega) (ev hg) (by omega) (by omega)).elim)⟩) rfl rfl dX3_value_44
  refine g_iconst F 0 dX3_value_0 (by decide) ?_
  refine g_istore_n F [(3, .int 0), (0, .ref (a 12)), (1, .int p0), (2, .int p1)] dX3_value_1 rfl (by decide) rfl ?_
  refine g_iconst F 0 dX3_value_2 (by decide) ?_
  refine g_istore F [(4, .int 0), (3, .int 0), (0, .ref (a 12)), (1, .int p0), (2, .int p1)] dX3_value_3 (by decide) rfl ?_
  refine g_locals [(0, .ref (a 12)), (1, .int p0), (2, .int p1), (3, .int 0), (4, .int 0)] [2, 3, 4, 1, 0] rfl ?_
  exact J_5 _ 0 0 G (Nat.lt_succ_self _) (by decide) (by decide) hI gu_un.rf (fun _ => rfl) (by have h9 := (show (0 : Int) ≤ (G 12 1).toInt ∧ (G 12 1).toInt ≤ 80 from hI 12 1); (first | omega | (simp only [Int32.reduceToInt, true_and, and_true, ne_eq, not_true_eq_false, false_and, or_false, false_or, true_or, or_true, false_implies] <;> omega)))

theorem dX5_run_0 : decode cX5_run 0 = .ok (.aload_n 0, 1) := by decide +kernel
theorem dX5_run_1 : decode cX5_run 1 = .ok (.getfield 29, 3) := by decide +kernel
theorem dX5_run_4 : decode cX5_run 4 = .ok (.getfield 56, 3) := by decide +kernel
theorem dX5_run_7 : decode cX5_run 7 = .ok (.iconst 0, 1) := by decide +kernel
theorem dX5_run_8 : decode cX5_run 8 = .ok (.iaload, 1) := by decide +kernel
theorem dX5_run_9 : decode cX5_run 9 = .ok (.istore 5, 2) := by decide +kernel
theorem dX5_run_11 : decode cX5_run 11 = .ok (.aload_n 0, 1) := by decide +kernel
theorem dX5_run_12 : decode cX5_run 12 = .ok (.getfield 29, 3) := by decide +kernel
theorem dX5_run_15 : decode cX5_run 15 = .ok (.aload_n 0, 1) := by decide +kernel
theorem dX5_run_16 : decode cX5_run 16 = .ok (.getfield 33, 3) := by decide +kernel
theorem dX5_run_19 : decode cX5_run 19 = .ok (.invokevirtual 46, 3) := by decide +kernel
theorem dX5_run_22 : decode cX5_run 22 = .ok (.ifCond .eq 23, 3) := by decide +kernel
theorem dX5_run_25 : decode cX5_run 25 = .ok (.iload 5, 2) := by decide +kernel
theorem dX5_run_27 : decode cX5_run 27 = .ok (.iconst 1, 1) := by decide +kernel
theorem dX5_run_28 : decode cX5_run 28 = .ok (.if_icmp .lt 17, 3) := by decide +kernel
theorem dX5_run_31 : decode cX5_run 31 = .ok (.iload 5, 2) := by decide +kernel
theorem dX5_run_33 : decode cX5_run 33 = .ok (.bipush 16, 2) := by decide +kernel
theorem dX5_run_35 : decode cX5_run 35 = .ok (.if_icmp .gt 10, 3) := by decide +kernel
theorem dX5_run_38 : decode cX5_run 38 = .ok (.aload_n 1, 1) := by decide +kernel
theorem dX5_run_39 : decode cX5_run 39 = .ok (.arraylength, 1) := by decide +kernel
theorem dX5_run_40 : decode cX5_run 40 = .ok (.bipush 96, 2) := by decide +kernel
theorem dX5_run_42 : decode cX5_run 42 = .ok (.if_icmp .ge 6, 3) := by decide +kernel
theorem dX5_run_45 : decode cX5_run 45 = .ok (.bipush (-4), 2) := by decide +kernel
theorem dX5_run_47 : decode cX5_run 47 = .ok (.ireturn, 1) := by decide +kernel
theorem dX5_run_48 : decode cX5_run 48 = .ok (.aload_n 1, 1) := by decide +kernel
theorem dX5_run_49 : decode cX5_run 49 = .ok (.aload_n 0, 1) := by decide +kernel
theorem dX5_run_50 : decode cX5_run 50 = .ok (.getfield 33, 3) := by decide +kernel
theorem dX5_run_53 : decode cX5_run 53 = .ok (.iconst 0, 1) := by decide +kernel
theorem dX5_run_54 : decode cX5_run 54 = .ok (.invokestatic 59, 3) := by decide +kernel
theorem dX5_run_57 : decode cX5_run 57 = .ok (.aload_n 0, 1) := by decide +kernel
theorem dX5_run_58 : decode cX5_run 58 = .ok (.getfield 17, 3) := by decide +kernel
theorem dX5_run_61 : decode cX5_run 61 = .ok (.iconst 0, 1) := by decide +kernel
theorem dX5_run_62 : decode cX5_run 62 = .ok (.iload 5, 2) := by decide +kernel
theorem dX5_run_64 : decode cX5_run 64 = .ok (.invokestatic 65, 3) := by decide +kernel
theorem dX5_run_67 : decode cX5_run 67 = .ok (.aload_n 0, 1) := by decide +kernel
theorem dX5_run_68 : decode cX5_run 68 = .ok (.getfield 17, 3) := by decide +kernel
theorem dX5_run_71 : decode cX5_run 71 = .ok (.iconst 0, 1) := by decide +kernel
theorem dX5_run_72 : decode cX5_run 72 = .ok (.iload 5, 2) := by decide +kernel
theorem dX5_run_74 : decode cX5_run 74 = .ok (.invokestatic 71, 3) := by decide +kernel
theorem dX5_run_77 : decode cX5_run 77 = .ok (.istore 6, 2) := by decide +kernel
theorem dX5_run_79 : decode cX5_run 79 = .ok (.iload 6, 2) := by decide +kernel
theorem dX5_run_81 : decode cX5_run 81 = .ok (.aload_n 0, 1) := by decide +kernel
theorem dX5_run_82 : decode cX5_run 82 = .ok (.getfield 40, 3) := by decide +kernel
theorem dX5_run_85 : decode cX5_run 85 = .ok (.aload_n 0, 1) := by decide +kernel
theorem dX5_run_86 : decode cX5_run 86 = .ok (.getfield 43, 3) := by decide +kernel
theorem dX5_run_89 : decode cX5_run 89 = .ok (.imul, 1) := by decide +kernel
theorem dX5_run_90 : decode cX5_run 90 = .ok (.isub, 1) := by decide +kernel
theorem dX5_run_91 : decode cX5_run 91 = .ok (.iconst 1, 1) := by decide +kernel
theorem dX5_run_92 : decode cX5_run 92 = .ok (.if_icmp .ge 6, 3) := by decide +kernel
theorem dX5_run_95 : decode cX5_run 95 = .ok (.bipush (-4), 2) := by decide +kernel
theorem dX5_run_97 : decode cX5_run 97 = .ok (.ireturn, 1) := by decide +kernel
theorem dX5_run_98 : decode cX5_run 98 = .ok (.aload_n 0, 1) := by decide +kernel
theorem dX5_run_99 : decode cX5_run 99 = .ok (.aload_n 1, 1) := by decide +kernel
theorem dX5_run_100 : decode cX5_run 100 = .ok (.iload 6, 2) := by decide +kernel
theorem dX5_run_102 : decode cX5_run 102 = .ok (.invokevirtual 75, 3) := by decide +kernel
theorem dX5_run_105 : decode cX5_run 105 = .ok (.istore 7, 2) := by decide +kernel
theorem dX5_run_107 : decode cX5_run 107 = .ok (.aload_n 0, 1) := by decide +kernel
theorem dX5_run_108 : decode cX5_run 108 = .ok (.iload_n 2, 1) := by decide +kernel
theorem dX5_run_109 : decode cX5_run 109 = .ok (.invokevirtual 79, 3) := by decide +kernel
theorem dX5_run_112 : decode cX5_run 112 = .ok (.iconst 0, 1) := by decide +kernel
theorem dX5_run_113 : decode cX5_run 113 = .ok (.istore 8, 2) := by decide +kernel
theorem dX5_run_115 : decode cX5_run 115 = .ok (.iconst 0, 1) := by decide +kernel
theorem dX5_run_116 : decode cX5_run 116 = .ok (.istore 9, 2) := by decide +kernel
theorem dX5_run_118 : decode cX5_run 118 = .ok (.iconst 0, 1) := by decide +kernel
theorem dX5_run_119 : decode cX5_run 119 = .ok (.istore 10, 2) := by decide +kernel
theorem dX5_run_121 : decode cX5_run 121 = .ok (.iload 10, 2) := by decide +kernel
theorem dX5_run_123 : decode cX5_run 123 = .ok (.aload_n 0, 1) := by decide +kernel
theorem dX5_run_124 : decode cX5_run 124 = .ok (.getfield 43, 3) := by decide +kernel
theorem dX5_run_127 : decode cX5_run 127 = .ok (.if_icmp .ge 134, 3) := by decide +kernel
theorem dX5_run_130 : decode cX5_run 130 = .ok (.iload 8, 2) := by decide +kernel
theorem dX5_run_132 : decode cX5_run 132 = .ok (.ifCond .ne 129, 3) := by decide +kernel
theorem dX5_run_135 : decode cX5_run 135 = .ok (.aload_n 0, 1) := by decide +kernel
theorem dX5_run_136 : decode cX5_run 136 = .ok (.dup, 1) := by decide +kernel
theorem dX5_run_137 : decode cX5_run 137 = .ok (.getfield 83, 3) := by decide +kernel
theorem dX5_run_140 : decode cX5_run 140 = .ok (.iconst 1, 1) := by decide +kernel
theorem dX5_run_141 : decode cX5_run 141 = .ok (.iadd, 1) := by decide +kernel
theorem dX5_run_142 : decode cX5_run 142 = .ok (.putfield 83, 3) := by decide +kernel
theorem dX5_run_145 : decode cX5_run 145 = .ok (.iconst 0, 1) := by decide +kernel
theorem dX5_run_146 : decode cX5_run 146 = .ok (.istore 11, 2) := by decide +kernel
theorem dX5_run_148 : decode cX5_run 148 = .ok (.iload 11, 2) := by decide +kernel
theorem dX5_run_150 : decode cX5_run 150 = .ok (.iload 5, 2) := by decide +kernel
theorem dX5_run_152 : decode cX5_run 152 = .ok (.if_icmp .ge 103, 3) := by decide +kernel
theorem dX5_run_155 : decode cX5_run 155 = .ok (.iload 8, 2) := by decide +kernel
theorem dX5_run_157 : decode cX5_run 157 = .ok (.ifCond .ne 98, 3) := by decide +kernel
theorem dX5_run_160 : decode cX5_run 160 = .ok (.aload_n 0, 1) := by decide +kernel
theorem dX5_run_161 : decode cX5_run 161 = .ok (.iload 11, 2) := by decide +kernel
theorem dX5_run_163 : decode cX5_run 163 = .ok (.iload 10, 2) := by decide +kernel
theorem dX5_run_165 : decode cX5_run 165 = .ok (.iload 6, 2) := by decide +kernel
theorem dX5_run_167 : decode cX5_run 167 = .ok (.aload_n 0, 1) := by decide +kernel
theorem dX5_run_168 : decode cX5_run 168 = .ok (.getfield 40, 3) := by decide +kernel
theorem dX5_run_171 : decode cX5_run 171 = .ok (.iload 10, 2) := by decide +kernel
theorem dX5_run_173 : decode cX5_run 173 = .ok (.iconst 1, 1) := by decide +kernel
theorem dX5_run_174 : decode cX5_run 174 = .ok (.iadd, 1) := by decide +kernel
theorem dX5_run_175 : decode cX5_run 175 = .ok (.imul, 1) := by decide +kernel
theorem dX5_run_176 : decode cX5_run 176 = .ok (.isub, 1) := by decide +kernel
theorem dX5_run_177 : decode cX5_run 177 = .ok (.invokevirtual 86, 3) := by decide +kernel
theorem dX5_run_180 : decode cX5_run 180 = .ok (.istore 12, 2) := by decide +kernel
theorem dX5_run_182 : decode cX5_run 182 = .ok (.iload_n 3, 1) := by decide +kernel
theorem dX5_run_183 : decode cX5_run 183 = .ok (.aload_n 0, 1) := by decide +kernel
theorem dX5_run_184 : decode cX5_run 184 = .ok (.getfield 29, 3) := by decide +kernel
theorem dX5_run_187 : decode cX5_run 187 = .ok (.getfield 90, 3) := by decide +kernel
theorem dX5_run_190 : decode cX5_run 190 = .ok (.aload_n 0, 1) := by decide +kernel
theorem dX5_run_191 : decode cX5_run 191 = .ok (.getfield 17, 3) := by decide +kernel
theorem dX5_run_194 : decode cX5_run 194 = .ok (.iload 11, 2) := by decide +kernel
theorem dX5_run_196 : decode cX5_run 196 = .ok (.iaload, 1) := by decide +kernel
theorem dX5_run_197 : decode cX5_run 197 = .ok (.iload 7, 2) := by decide +kernel
theorem dX5_run_199 : decode cX5_run 199 = .ok (.invokevirtual 94, 3) := by decide +kernel
theorem dX5_run_202 : decode cX5_run 202 = .ok (.iconst 0, 1) := by decide +kernel
theorem dX5_run_203 : decode cX5_run 203 = .ok (.sipush 999, 3) := by decide +kernel
theorem dX5_run_206 : decode cX5_run 206 = .ok (.invokestatic 99, 3) := by decide +kernel
theorem dX5_run_209 : decode cX5_run 209 = .ok (.iadd, 1) := by decide +kernel
theorem dX5_run_210 : decode cX5_run 210 = .ok (.istore 13, 2) := by decide +kernel
theorem dX5_run_212 : decode cX5_run 212 = .ok (.aload_n 0, 1) := by decide +kernel
theorem dX5_run_213 : decode cX5_run 213 = .ok (.aload_n 0, 1) := by decide +kernel
theorem dX5_run_214 : decode cX5_run 214 = .ok (.getfield 37, 3) := by decide +kernel
theorem dX5_run_217 : decode cX5_run 217 = .ok (.aload_n 0, 1) := by decide +kernel
theorem dX5_run_218 : decode cX5_run 218 = .ok (.getfield 29, 3) := by decide +kernel
theorem dX5_run_221 : decode cX5_run 221 = .ok (.iload 9, 2) := by decide +kernel
theorem dX5_run_223 : decode cX5_run 223 = .ok (.invokevirtual 102, 3) := by decide +kernel
theorem dX5_run_226 : decode cX5_run 226 = .ok (.iadd, 1) := by decide +kernel
theorem dX5_run_227 : decode cX5_run 227 = .ok (.iload 12, 2) := by decide +kernel
theorem dX5_run_229 : decode cX5_run 229 = .ok (.iload 13, 2) := by decide +kernel
theorem dX5_run_231 : decode cX5_run 231 = .ok (.iload 4, 2) := by decide +kernel
theorem dX5_run_233 : decode cX5_run 233 = .ok (.invokevirtual 106, 3) := by decide +kernel
theorem dX5_run_236 : decode cX5_run 236 = .ok (.istore 8, 2) := by decide +kernel
theorem dX5_run_238 : decode cX5_run 238 = .ok (.aload_n 0, 1) := by decide +kernel
theorem dX5_run_239 : decode cX5_run 239 = .ok (.getfield 29, 3) := by decide +kernel
theorem dX5_run_242 : decode cX5_run 242 = .ok (.iload 9, 2) := by decide +kernel
theorem dX5_run_244 : decode cX5_run 244 = .ok (.invokevirtual 110, 3) := by decide +kernel
theorem dX5_run_247 : decode cX5_run 247 = .ok (.istore 9, 2) := by decide +kernel
theorem dX5_run_249 : decode cX5_run 249 = .ok (.iinc 11 1, 3) := by decide +kernel
theorem dX5_run_252 : decode cX5_run 252 = .ok (.goto (-104), 3) := by decide +kernel
theorem dX5_run_255 : decode cX5_run 255 = .ok (.iinc 10 1, 3) := by decide +kernel
theorem dX5_run_258 : decode cX5_run 258 = .ok (.goto (-137), 3) := by decide +kernel
theorem dX5_run_261 : decode cX5_run 261 = .ok (.aload_n 0, 1) := by decide +kernel
theorem dX5_run_262 : decode cX5_run 262 = .ok (.aload_n 0, 1) := by decide +kernel
theorem dX5_run_263 : decode cX5_run 263 = .ok (.getfield 17, 3) := by decide +kernel
theorem dX5_run_266 : decode cX5_run 266 = .ok (.iconst 0, 1) := by decide +kernel
theorem dX5_run_267 : decode cX5_run 267 = .ok (.iload 5, 2) := by decide +kernel
theorem dX5_run_269 : decode cX5_run 269 = .ok (.invokestatic 71, 3) := by decide +kernel
theorem dX5_run_272 : decode cX5_run 272 = .ok (.aload_n 0, 1) := by decide +kernel
theorem dX5_run_273 : decode cX5_run 273 = .ok (.getfield 17, 3) := by decide +kernel
theorem dX5_run_276 : decode cX5_run 276 = .ok (.iconst 0, 1) := by decide +kernel
theorem dX5_run_277 : decode cX5_run 277 = .ok (.iload 5, 2) := by decide +kernel
theorem dX5_run_279 : decode cX5_run 279 = .ok (.invokestatic 113, 3) := by decide +kernel
theorem dX5_run_282 : decode cX5_run 282 = .ok (.isub, 1) := by decide +kernel
theorem dX5_run_283 : decode cX5_run 283 = .ok (.putfield 116, 3) := by decide +kernel
theorem dX5_run_286 : decode cX5_run 286 = .ok (.iload 8, 2) := by decide +kernel
theorem dX5_run_288 : decode cX5_run 288 = .ok (.ifCond .eq 5, 3) := by decide +kernel
theorem dX5_run_291 : decode cX5_run 291 = .ok (.iconst 2, 1) := by decide +kernel
theorem dX5_run_292 : decode cX5_run 292 = .ok (.ireturn, 1) := by decide +kernel
theorem dX5_run_293 : decode cX5_run 293 = .ok (.aload_n 0, 1) := by decide +kernel
theorem dX5_run_294 : decode cX5_run 294 = .ok (.getfield 116, 3) := by decide +kernel
theorem dX5_run_297 : decode cX5_run 297 = .ok (.aload_n 0, 1) := by decide +kernel
theorem dX5_run_298 : decode cX5_run 298 = .ok (.getfield 29, 3) := by decide +kernel
theorem dX5_run_301 : decode cX5_run 301 = .ok (.getfield 56, 3) := by decide +kernel
theorem dX5_run_304 : decode cX5_run 304 = .ok (.bipush 8, 2) := by decide +kernel
theorem dX5_run_306 : decode cX5_run 306 = .ok (.iaload, 1) := by decide +kernel
theorem dX5_run_307 : decode cX5_run 307 = .ok (.if_icmp .le 7, 3) := by decide +kernel
theorem dX5_run_310 : decode cX5_run 310 = .ok (.iconst 1, 1) := by decide +kernel
theorem dX5_run_311 : decode cX5_run 311 = .ok (.goto 4, 3) := by decide +kernel
theorem dX5_run_314 : decode cX5_run 314 = .ok (.iconst 0, 1) := by decide +kernel
theorem dX5_run_315 : decode cX5_run 315 = .ok (.ireturn, 1) := by decide +kernel
set_option maxRecDepth 20000 in
theorem ggX5_run_X3_value : GoodIn wsX5_run wsX3_value := goodIn_r _ [83, 84, 85, 86, 87, 88, 82, 89, 129, 130, 131, 132, 133, 134, 135, 136, 137] rfl (by decide +kernel)
set_option maxRecDepth 20000 in
theorem gX5_run_X3_value : GoodIn wsX5_run (wsV RX5 94 RX3 yX3_value wsX3_value) := goodIn_app (goodIn_of _ (by decide +kernel)) ggX5_run_X3_value
set_option maxRecDepth 20000 in
theorem ggX5_run_X5_begin : GoodIn wsX5_run wsX5_begin := goodIn_r _ [48, 49, 50, 51, 52, 53, 54, 55, 11, 56, 57, 58, 27, 59, 60, 61, 1, 2, 62, 63, 64, 65, 66, 105, 106, 107, 108, 109, 110, 111, 112, 113, 114, 115, 116, 117, 118, 119, 120, 121, 122, 123, 124, 125, 126, 127, 128] rfl (by decide +kernel)
set_option maxRecDepth 20000 in
theorem gX5_run_X5_begin : GoodIn wsX5_run (wsV RX5 79 RX5 yX5_begin wsX5_begin) := goodIn_app (goodIn_of _ (by decide +kernel)) ggX5_run_X5_begin
set_option maxRecDepth 20000 in
theorem ggX5_run_X5_bite : GoodIn wsX5_run wsX5_bite := goodIn_r _ [70, 1, 2, 60, 62, 30, 31, 32, 33, 4, 51, 54, 71, 50, 72, 38, 39, 40, 49, 73, 74, 75, 76, 77, 78, 79, 80, 81, 82, 83, 84, 85, 86, 87, 88, 89, 90, 91, 27, 92, 105, 106, 107, 108, 109, 110, 111, 112, 113, 114, 115, 116, 117, 118, 119, 120, 121, 122, 123, 124, 125, 126, 127, 128, 129, 130, 131, 132, 133, 134, 135, 136, 137] rfl (by decide +kernel)
set_option maxRecDepth 20000 in
theorem gX5_run_X5_bite : GoodIn wsX5_run (wsV RX5 86 RX5 yX5_bite wsX5_bite) := goodIn_app (goodIn_of _ (by decide +kernel)) ggX5_run_X5_bite
set_option maxRecDepth 20000 in
theorem ggX5_run_X5_gapIn : GoodIn wsX5_run wsX5_gapIn := goodIn_r _ [37, 1, 2, 3, 38, 39, 32, 40, 15, 16, 17, 18, 19, 20, 21, 22, 23, 24, 41, 42, 27, 43, 44, 105, 106, 107, 108, 109, 110, 111, 112, 113, 114, 115, 116, 117, 118, 119, 120, 121, 122, 123, 124, 125, 126, 127, 128] rfl (by decide +kernel)
set_option maxRecDepth 20000 in
theorem gX5_run_X5_gapIn : GoodIn wsX5_run (wsV RX5 75 RX5 yX5_gapIn wsX5_gapIn) := goodIn_app (goodIn_of _ (by decide +kernel)) ggX5_run_X5_gapIn
set_option maxRecDepth 20000 in
theorem ggX5_run_X5_greatest : GoodIn wsX5_run wsX5_greatest := goodIn_r _ [28, 29, 30, 31, 32, 33] rfl (by decide +kernel)
set_option maxRecDepth 20000 in
theorem gX5_run_X5_greatest : GoodIn wsX5_run (va_wsS RX5 71 yX5_greatest wsX5_greatest) := goodIn_app (goodIn_of _ (by decide +kernel)) ggX5_run_X5_greatest
set_option maxRecDepth 20000 in
theorem ggX5_run_X5_least : GoodIn wsX5_run wsX5_least := goodIn_r _ [43, 44, 38, 39, 32, 40] rfl (by decide +kernel)
set_option maxRecDepth 20000 in
theorem gX5_run_X5_least : GoodIn wsX5_run (va_wsS RX5 113 yX5_least wsX5_least) := goodIn_app (goodIn_of _ (by decide +kernel)) ggX5_run_X5_least
set_option maxRecDepth 20000 in
theorem ggX5_run_X5_swingsTooFar : GoodIn wsX5_run wsX5_swingsTooFar := goodIn_r _ [100, 1, 2, 30, 31, 32, 33, 51, 52, 55, 53, 105, 106, 107, 108, 109, 110, 111, 112, 113, 114, 115, 116, 117, 118, 119, 120, 121, 122, 123, 124, 125, 126, 127, 128] rfl (by decide +kernel)
set_option maxRecDepth 20000 in
theorem gX5_run_X5_swingsTooFar : GoodIn wsX5_run (wsV RX5 106 RX5 yX5_swingsTooFar wsX5_swingsTooFar) := goodIn_app (goodIn_of _ (by decide +kernel)) ggX5_run_X5_swingsTooFar
set_option maxRecDepth 20000 in
theorem ggX5_run_X5_within : GoodIn wsX5_run wsX5_within := goodIn_r _ [92, 38, 39, 32, 40, 30, 31, 33] rfl (by decide +kernel)
set_option maxRecDepth 20000 in
theorem gX5_run_X5_within : GoodIn wsX5_run (va_wsS RX5 99 yX5_within wsX5_within) := goodIn_app (goodIn_of _ (by decide +kernel)) ggX5_run_X5_within
set_option maxRecDepth 20000 in
theorem ggX5_run_X6_placeOf : GoodIn wsX5_run wsX6_placeOf := goodIn_r _ [24] rfl (by decide +kernel)
set_option maxRecDepth 20000 in
theorem gX5_run_X6_placeOf : GoodIn wsX5_run (va_wsS RX5 59 yX6_placeOf wsX6_placeOf) := goodIn_app (goodIn_of _ (by decide +kernel)) ggX5_run_X6_placeOf
set_option maxRecDepth 20000 in
theorem ggX5_run_X7_hasRing : GoodIn wsX5_run wsX7_hasRing := goodIn_r _ [19, 20, 125, 126, 127, 128] rfl (by decide +kernel)
set_option maxRecDepth 20000 in
theorem gX5_run_X7_hasRing : GoodIn wsX5_run (wsV RX5 46 RX7 yX7_hasRing wsX7_hasRing) := goodIn_app (goodIn_of _ (by decide +kernel)) ggX5_run_X7_hasRing
set_option maxRecDepth 20000 in
theorem ggX5_run_X7_swayAt : GoodIn wsX5_run wsX7_swayAt := goodIn_r _ [96, 20, 125, 126, 127, 128] rfl (by decide +kernel)
set_option maxRecDepth 20000 in
theorem gX5_run_X7_swayAt : GoodIn wsX5_run (wsV RX5 102 RX7 yX7_swayAt wsX7_swayAt) := goodIn_app (goodIn_of _ (by decide +kernel)) ggX5_run_X7_swayAt
set_option maxRecDepth 20000 in
theorem ggX5_run_X7_swayBehind : GoodIn wsX5_run wsX7_swayBehind := goodIn_r _ [104, 20, 125, 126, 127, 128] rfl (by decide +kernel)
set_option maxRecDepth 20000 in
theorem gX5_run_X7_swayBehind : GoodIn wsX5_run (wsV RX5 110 RX7 yX7_swayBehind wsX7_swayBehind) := goodIn_app (goodIn_of _ (by decide +kernel)) ggX5_run_X7_swayBehind
set_option maxHeartbeats 4000000 in
set_option maxRecDepth 100000 in
theorem S_X5_run_38 (l : Launch) (D : va_G) (K : Nat → ClassId) (a : Nat → Nat) (G : gS) (p1 : Int32) (s1 : Int) (p2 : Int32) (s2 : Int) (p3 : Int32) (s3 : Int) (e1 : p1.toInt = s1) (e2 : p2.toInt = s2) (e3 : p3.toInt = s3) (hI : xI G) (sz : Nat) : Ki l yX5_run wsX5_run 4 115 0 0 D [.ref (a 6), .ref (a 38), .int p1, .int p2, .int p3] (xW K a G) (tK K) sz (fun (r : Int32) (G' : gS) => (xI G') ∧ (gu_un xcd [608, 613, 614, 615, 616, 617, 618, 619, 620, 2100, 2400, 2700, 4400, 4500, 4600, 4700, 4800] G G') ∧ ((-4) ≤ r.toInt ∧ r.toInt ≤ 2) ∧ ((r.toInt = -4 ∨ (0 ≤ r.toInt ∧ 0 ≤ (G 6 1).toInt ∧ (G 6 1).toInt ≤ 5)))) (fun (G' : gS) => (xW K a G')) (fun _ => (tK K)) := by
  unfold Ki
  refine g_ofW (cc := cX5_run) (lv := [(0, .ref (a 6)), (1, .ref (a 38)), (2, .int p1), (3, .int p2), (4, .int p3)]) (by decide) rfl (Nat.le_of_ble_eq_true rfl) rfl ?_
  intro p e s m args below meth c A Q hA hQ F hr hnm
  have hts := F.2.2.2.2.1
  have w_0 : (Cond.fieldLink RX5 17 "QuietCut$Lathe" "heights" "[I").before args s = true := hts _ (List.mem_of_getElem? (i := 4) rfl)
  have i_X5 : ∀ w ∈ u_ws RX5 TX5 20, w ∈ wsX5_run := fun _ h => List.mem_cons_of_mem _ (List.mem_append_left _ (List.mem_append_left _ (List.mem_append_right _ h)))
  have w_1 : (Cond.fieldLink RX5 116 "QuietCut$Lathe" "wave" "I").before args s = true := hts _ (List.mem_of_getElem? (i := 14) rfl)
  have w_2 : (Cond.fieldLink RX5 29 "QuietCut$Lathe" "shop" "LQuietCut$Shop;").before args s = true := hts _ (List.mem_of_getElem? (i := 1) rfl)
  have w_3 : (Cond.fieldLink RX5 56 "QuietCut$Shop" "numbers" "[I").before args s = true := hts _ (List.mem_of_getElem? (i := 2) rfl)
  have i_X7 : ∀ w ∈ u_ws RX7 TX7 4, w ∈ wsX5_run := fun _ h => List.mem_cons_of_mem _ (List.mem_append_left _ (List.mem_append_right _ h))
  have w_4 : (Cond.fieldLink RX5 40 "QuietCut$Lathe" "feed" "I").before args s = true := hts _ (List.mem_of_getElem? (i := 9) rfl)
  have w_5 : (Cond.fieldLink RX5 90 "QuietCut$Shop" "wall" "LQuietCut$Formula;").before args s = true := hts _ (List.mem_of_getElem? (i := 12) rfl)
  have w_6 : (Cond.fieldLink RX5 37 "QuietCut$Lathe" "speed" "I").before args s = true := hts _ (List.mem_of_getElem? (i := 13) rfl)
  have w_7 : (Cond.fieldLink RX5 43 "QuietCut$Lathe" "turns" "I").before args s = true := hts _ (List.mem_of_getElem? (i := 10) rfl)
  have w_8 : (Cond.fieldLink RX5 83 "QuietCut$Lathe" "begun" "I").before args s = true := hts _ (List.mem_of_getElem? (i := 11) rfl)
  have w_9 : (Cond.fieldLink RX5 33 "QuietCut$Lathe" "ring" "I").before args s = true := hts _ (List.mem_of_getElem? (i := 3) rfl)
  have w_10 : (Cond.methodLink RX5 65 arraycopyName).before args s = true := hts _ (List.mem_of_getElem? (i := 5) rfl)
  have w_11 : (Cond.native arraycopyName).before args s = true := hts _ (List.mem_of_getElem? (i := 6) rfl)
  have w_12 : (Cond.static arraycopyName).before args s = true := hts _ (List.mem_of_getElem? (i := 7) rfl)
  have w_13 : (Cond.initialized "java/lang/System").before args s = true := hts _ (List.mem_of_getElem? (i := 8) rfl)
  have rg1 : -2147483648 ≤ s1 ∧ s1 ≤ 2147483647 := e1 ▸ ti_rng p1
  have rg2 : -2147483648 ≤ s2 ∧ s2 ≤ 2147483647 := e2 ▸ ti_rng p2
  have rg3 : -2147483648 ≤ s3 ∧ s3 ≤ 2147483647 := e3 ▸ ti_rng p3
  have J_261 : ∀  (x261_8 : Int32) (Gj261 : gS), (0 ≤ x261_8.toInt ∧ x261_8.toInt ≤ 1) → (xI Gj261) → (gu_un xcd [608, 613, 614, 615, 617, 618, 619, 620, 2100, 2400, 2700, 4400, 4500, 4600, 4700, 4800] G Gj261) → ((0 ≤ (G 6 1).toInt ∧ (G 6 1).toInt ≤ 5)) → gG p l e (gR 4 0 0 115) s m args below meth c D A 14 Q 0 0 (xW K a Gj261) (tK K) [(0, .ref (a 6)), (5, .int (G 18 0)), (8, .int x261_8)] 261 [] := by
    intro x261_8 Gj261 h261_8 jI261 jU261 rgi_261
    refine g_aload_n F 0 dX5_run_261 rfl rfl ?_
    refine g_aload_n F 0 dX5_run_262 rfl rfl ?_
    refine xg_6_8 F i_X5 w_0 dX5_run_263 ?_
    refine g_iconst F 0 dX5_run_266 (by decide) ?_
    refine g_iload F 1 dX5_run_267 rfl ?_
    have b1 : (4 : Int) ≤ (G 18 0).toInt ∧ (G 18 0).toInt ≤ 16 := hI 18 0
    refine u_callSi (k := 0) (n := 0) (As := [.ref (a 45), .int 0, .int (G 18 0)]) (st := [.ref (a 6)]) F (fun sz => S_X5_greatest_45 l D K a Gj261 0 0 (G 18 0) (G 18 0).toInt rfl rfl jI261 sz) (va_cwS 3 hts gX5_run_X5_greatest rfl rfl rfl (by decide +kernel) ⟨Nat.le_of_ble_eq_true rfl, Nat.le_of_ble_eq_true rfl⟩) rfl (Nat.le_of_ble_eq_true rfl) ⟨Nat.zero_le _, Nat.zero_le _⟩ dX5_run_269 (fun r2 _ hw3 => ?_)
    have rg5 := hw3
    clear hw3
    refine g_aload_n F 0 dX5_run_272 rfl rfl ?_
    refine xg_6_8 F i_X5 w_0 dX5_run_273 ?_
    refine g_iconst F 0 dX5_run_276 (by decide) ?_
    refine g_iload F 1 dX5_run_277 rfl ?_
    refine u_callSi (k := 0) (n := 0) (As := [.ref (a 45), .int 0, .int (G 18 0)]) (st := [.int r2, .ref (a 6)]) F (fun sz => S_X5_least_45 l D K a Gj261 0 0 (G 18 0) (G 18 0).toInt rfl rfl jI261 sz) (va_cwS 3 hts gX5_run_X5_least rfl rfl rfl (by decide +kernel) ⟨Nat.le_of_ble_eq_true rfl, Nat.le_of_ble_eq_true rfl⟩) rfl (Nat.le_of_ble_eq_true rfl) ⟨Nat.zero_le _, Nat.zero_le _⟩ dX5_run_279 (fun r6 _ hw7 => ?_)
    have rg9 := hw7
    clear hw7
    refine u0_isub F dX5_run_282 (fun y10 => ?_)
    refine xp_6_15 F i_X5 w_1 dX5_run_283 ?_
    refine g_iload F 2 dX5_run_286 rfl ?_
    refine v_if_eq F 293 dX5_run_288 (by decide) x261_8.toInt rfl (fun c11 => ?_) (fun c11 => ?_)
    · refine g_aload_n F 0 dX5_run_293 rfl rfl ?_
      refine xg_6_15 F i_X5 w_1 dX5_run_294 y10 (rfl) ?_
      refine g_aload_n F 0 dX5_run_297 rfl rfl ?_
      refine xg_6_0 F i_X5 w_2 dX5_run_298 ?_
      refine xg_2_0 F i_X7 w_3 dX5_run_301 ?_
      refine g_bipush F 8 dX5_run_304 (by decide) ?_
      refine u1_iald F 18 0 xc_18 rfl 8 rfl (by decide) (by decide) dX5_run_306 (G 18 8) (jU261 18 8 (by decide)) ?_
      have b12 : (0 : Int) ≤ (G 18 8).toInt ∧ (G 18 8).toInt ≤ 9999 := hI 18 8
      have b13 := ti_rng y10
      refine v_icmp_le F 314 dX5_run_307 (by decide) y10.toInt (G 18 8).toInt rfl rfl (fun c14 => ?_) (fun c14 => ?_)
      · refine g_iconst F 0 dX5_run_314 (by decide) ?_
        exact u_iret F hA hQ hr (gu_up Gj261 6 15 y10) (⟨(gu_I.up (j := 6) (k := 15) (v := y10) jI261 (ti_rng _).1 (ti_rng _).2), (gu_un.up (j := 6) (k := 15) (v := y10) (gu_un.tr gu_un.rf (gu_un.su jU261 rfl)) (show (616 : Nat) ∈ ([608, 613, 614, 615, 616, 617, 618, 619, 620, 2100, 2400, 2700, 4400, 4500, 4600, 4700, 4800] : List Nat) by decide)), (by decide), (by show (0 = -4 ∨ (0 ≤ 0 ∧ 0 ≤ (G 6 1).toInt ∧ (G 6 1).toInt ≤ 5)); (first | omega | (simp only [Int32.reduceToInt, true_and, and_true, ne_eq, not_true_eq_false, false_and, or_false, false_or, true_or, or_true, false_implies] <;> omega)))⟩) rfl rfl dX5_run_315
      · refine g_iconst F 1 dX5_run_310 (by decide) ?_
        refine g_goto F 315 dX5_run_311 (by decide) ?_
        exact u_iret F hA hQ hr (gu_up Gj261 6 15 y10) (⟨(gu_I.up (j := 6) (k := 15) (v := y10) jI261 (ti_rng _).1 (ti_rng _).2), (gu_un.up (j := 6) (k := 15) (v := y10) (gu_un.tr gu_un.rf (gu_un.su jU261 rfl)) (show (616 : Nat) ∈ ([608, 613, 614, 615, 616, 617, 618, 619, 620, 2100, 2400, 2700, 4400, 4500, 4600, 4700, 4800] : List Nat) by decide)), (by decide), (by show (1 = -4 ∨ (0 ≤ 1 ∧ 0 ≤ (G 6 1).toInt ∧ (G 6 1).toInt ≤ 5)); (first | omega | (simp only [Int32.reduceToInt, true_and, and_true, ne_eq, not_true_eq_false, false_and, or_false, false_or, true_or, or_true, false_implies] <;> omega)))⟩) rfl rfl dX5_run_315
    · refine g_iconst F 2 dX5_run_291 (by decide) ?_
      exact u_iret F hA hQ hr (gu_up Gj261 6 15 y10) (⟨(gu_I.up (j := 6) (k := 15) (v := y10) jI261 (ti_rng _).1 (ti_rng _).2), (gu_un.up (j := 6) (k := 15) (v := y10) (gu_un.tr gu_un.rf (gu_un.su jU261 rfl)) (show (616 : Nat) ∈ ([608, 613, 614, 615, 616, 617, 618, 619, 620, 2100, 2400, 2700, 4400, 4500, 4600, 4700, 4800] : List Nat) by decide)), (by decide), (by show (2 = -4 ∨ (0 ≤ 2 ∧ 0 ≤ (G 6 1).toInt ∧ (G 6 1).toInt ≤ 5)); (first | omega | (simp only [Int32.reduceToInt, true_and, and_true, ne_eq, not_true_eq_false, false_and, or_false, false_or, true_or, or_true, false_implies] <;> omega)))⟩) rfl rfl dX5_run_292
  have J_121 : ∀ (fuel : Nat) (x121_6 : Int32) (x121_7 : Int32) (x121_8 : Int32) (x121_9 : Int32) (x121_10 : Int32) (Gj121 : gS), (2147483647 - x121_10.toInt).toNat < fuel → ((-1000000) ≤ x121_6.toInt ∧ x121_6.toInt ≤ 2147483647) → (0 ≤ x121_8.toInt ∧ x121_8.toInt ≤ 1) → (0 ≤ x121_10.toInt ∧ x121_10.toInt ≤ 2147483647) → (xI Gj121) → (gu_un xcd [608, 613, 614, 615, 617, 618, 619, 620, 2100, 2400, 2700, 4400, 4500, 4600, 4700, 4800] G Gj121) → ((0 ≤ (G 6 1).toInt ∧ (G 6 1).toInt ≤ 5)) → gG p l e (gR 4 0 0 115) s m args below meth c D A 14 Q 0 0 (xW K a Gj121) (tK K) [(0, .ref (a 6)), (3, .int p2), (4, .int p3), (5, .int (G 18 0)), (6, .int x121_6), (7, .int x121_7), (8, .int x121_8), (9, .int x121_9), (10, .int x121_10)] 121 [] := by
    intro fuel
    induction fuel with
    | zero => intro x121_6 x121_7 x121_8 x121_9 x121_10 Gj121 hm; exact absurd hm (Nat.not_lt_zero _)
    | succ fuel_121 ih_121 =>
      intro x121_6 x121_7 x121_8 x121_9 x121_10 Gj121 hm_121 h121_6 h121_8 h121_10 jI121 jU121 rgi_121
      have J_255 : ∀  (x255_8 : Int32) (x255_9 : Int32) (Gj255 : gS), (0 ≤ x255_8.toInt ∧ x255_8.toInt ≤ 1) → (0 ≤ x121_10.toInt ∧ x121_10.toInt ≤ 2147483646) → (xI Gj255) → (gu_un xcd [613, 614, 615, 617, 618, 619, 620, 2100, 2400, 2700, 4500, 4600, 4700, 4800] Gj121 Gj255) → ((0 ≤ (G 6 1).toInt ∧ (G 6 1).toInt ≤ 5)) → gG p l e (gR 4 0 0 115) s m args below meth c D A 14 Q 0 0 (xW K a Gj255) (tK K) [(0, .ref (a 6)), (3, .int p2), (4, .int p3), (5, .int (G 18 0)), (6, .int x121_6), (7, .int x121_7), (8, .int x255_8), (9, .int x255_9), (10, .int x121_10)] 255 [] := by
        intro x255_8 x255_9 Gj255 h255_8 k255_10 jI255 jU255 rgi_255
        refine u_iinc F (fun v_ => [(10, .int v_), (0, .ref (a 6)), (3, .int p2), (4, .int p3), (5, .int (G 18 0)), (6, .int x121_6), (7, .int x121_7), (8, .int x255_8), (9, .int x255_9)]) dX5_run_255 (j := 8) rfl x121_10.toInt 1 rfl rfl (by omega) (by omega) (by decide) (fun _ => rfl) (fun y15 ey15 => ?_)
        refine g_goto F 121 dX5_run_258 (by decide) ?_
        refine g_locals [(0, .ref (a 6)), (3, .int p2), (4, .int p3), (5, .int (G 18 0)), (6, .int x121_6), (7, .int x121_7), (8, .int x255_8), (9, .int x255_9), (10, .int y15)] [1, 2, 3, 4, 5, 6, 7, 8, 0] rfl ?_
        exact ih_121 x121_6 x121_7 x255_8 x255_9 y15 Gj255 (by omega) (by have h9 := ti_rng x121_6; omega) (by have h9 := ti_rng x255_8; omega) (by have h9 := ti_rng y15; omega) jI255 (gu_un.tr (gu_un.tr gu_un.rf (gu_un.su jU121 rfl)) (gu_un.su jU255 rfl)) (by have e9_6_1 : Gj255 6 1 = (G 6 1) := (jU255 6 1 (by decide)).trans (jU121 6 1 (by decide)); (try simp only [e9_6_1, true_and, and_true]) <;> (first | omega | (simp only [Int32.reduceToInt, true_and, and_true, ne_eq, not_true_eq_false, false_and, or_false, false_or, true_or, or_true, false_implies] <;> omega)))
      have J_148 : ∀ (fuel : Nat) (x148_8 : Int32) (x148_9 : Int32) (x148_11 : Int32) (Gj148 : gS), (2147483647 - x148_11.toInt).toNat < fuel → (0 ≤ x148_8.toInt ∧ x148_8.toInt ≤ 1) → (0 ≤ x121_10.toInt ∧ x121_10.toInt ≤ 2147483646) → (0 ≤ x148_11.toInt ∧ x148_11.toInt ≤ 16) → (xI Gj148) → (gu_un xcd [613, 614, 615, 617, 618, 619, 620, 2100, 2400, 2700, 4500, 4600, 4700, 4800] Gj121 Gj148) → ((0 ≤ (G 6 1).toInt ∧ (G 6 1).toInt ≤ 5)) → gG p l e (gR 4 0 0 115) s m args below meth c D A 14 Q 0 0 (xW K a Gj148) (tK K) [(0, .ref (a 6)), (3, .int p2), (4, .int p3), (5, .int (G 18 0)), (6, .int x121_6), (7, .int x121_7), (8, .int x148_8), (9, .int x148_9), (10, .int x121_10), (11, .int x148_11)] 148 [] := by
        intro fuel
        induction fuel with
        | zero => intro x148_8 x148_9 x148_11 Gj148 hm; exact absurd hm (Nat.not_lt_zero _)
        | succ fuel_148 ih_148 =>
          intro x148_8 x148_9 x148_11 Gj148 hm_148 h148_8 k148_10 h148_11 jI148 jU148 rgi_148
          refine g_iload F 9 dX5_run_148 rfl ?_
          refine g_iload F 3 dX5_run_150 rfl ?_
          have b16 : (4 : Int) ≤ (G 18 0).toInt ∧ (G 18 0).toInt ≤ 16 := hI 18 0
          refine v_icmp_ge F 255 dX5_run_152 (by decide) x148_11.toInt (G 18 0).toInt rfl rfl (fun c17 => ?_) (fun c17 => ?_)
          · refine g_locals [(0, .ref (a 6)), (3, .int p2), (4, .int p3), (5, .int (G 18 0)), (6, .int x121_6), (7, .int x121_7), (8, .int x148_8), (9, .int x148_9), (10, .int x121_10)] [0, 1, 2, 3, 4, 5, 6, 7, 8] rfl ?_
            exact J_255 x148_8 x148_9 Gj148 (by have h9 := ti_rng x148_8; omega) (by have h9 := ti_rng x121_10; omega) jI148 (gu_un.tr gu_un.rf (gu_un.su jU148 rfl)) (by have e9_6_1 : Gj148 6 1 = (G 6 1) := (jU148 6 1 (by decide)).trans (jU121 6 1 (by decide)); (try simp only [e9_6_1, true_and, and_true]) <;> (first | omega | (simp only [Int32.reduceToInt, true_and, and_true, ne_eq, not_true_eq_false, false_and, or_false, false_or, true_or, or_true, false_implies] <;> omega)))
          · refine g_iload F 6 dX5_run_155 rfl ?_
            refine v_if_ne F 255 dX5_run_157 (by decide) x148_8.toInt rfl (fun c18 => ?_) (fun c18 => ?_)
            · refine g_locals [(0, .ref (a 6)), (3, .int p2), (4, .int p3), (5, .int (G 18 0)), (6, .int x121_6), (7, .int x121_7), (8, .int x148_8), (9, .int x148_9), (10, .int x121_10)] [0, 1, 2, 3, 4, 5, 6, 7, 8] rfl ?_
              exact J_255 x148_8 x148_9 Gj148 (by have h9 := ti_rng x148_8; omega) (by have h9 := ti_rng x121_10; omega) jI148 (gu_un.tr gu_un.rf (gu_un.su jU148 rfl)) (by have e9_6_1 : Gj148 6 1 = (G 6 1) := (jU148 6 1 (by decide)).trans (jU121 6 1 (by decide)); (try simp only [e9_6_1, true_and, and_true]) <;> (first | omega | (simp only [Int32.reduceToInt, true_and, and_true, ne_eq, not_true_eq_false, false_and, or_false, false_or, true_or, or_true, false_implies] <;> omega)))
            · refine g_aload_n F 0 dX5_run_160 rfl rfl ?_
              refine g_iload F 9 dX5_run_161 rfl ?_
              refine g_iload F 8 dX5_run_163 rfl ?_
              refine g_iload F 4 dX5_run_165 rfl ?_
              refine g_aload_n F 0 dX5_run_167 rfl rfl ?_
              refine xg_6_3 F i_X5 w_4 dX5_run_168 (G 6 3) ((jU148 6 3 (by decide)).trans (jU121 6 3 (by decide))) ?_
              refine g_iload F 8 dX5_run_171 rfl ?_
              refine g_iconst F 1 dX5_run_173 (by decide) ?_
              refine u_iadd F dX5_run_174 x121_10.toInt 1 rfl rfl (by omega) (by omega) (fun y19 ey19 => ?_)
              refine u0_imul F dX5_run_175 (fun y20 => ?_)
              refine u0_isub F dX5_run_176 (fun y21 => ?_)
              refine u_callVi (k := 0) (n := 0) (b := a 6) (As := [.int x148_11, .int x121_10, .int y21]) (st := []) F (fun sz => S_X5_bite l D K a Gj148 x148_11 x148_11.toInt x121_10 x121_10.toInt y21 y21.toInt rfl (by omega) rfl rfl jI148 sz) (cwV 3 hts gX5_run_X5_bite rfl rfl rfl (by decide +kernel) ⟨Nat.le_of_ble_eq_true rfl, Nat.le_of_ble_eq_true rfl⟩) rfl 6 xc_6 rfl (Nat.le_of_ble_eq_true rfl) ⟨Nat.zero_le _, Nat.zero_le _⟩ dX5_run_177 (fun r22 G24 hw23 => ?_)
              have hI25 : xI G24 := hw23.1
              have hU26 : gu_un xcd [613, 618, 2100, 2700, 4500, 4600, 4700, 4800] Gj148 G24 := hw23.2
              refine g_istore F [(12, .int r22), (0, .ref (a 6)), (3, .int p2), (4, .int p3), (5, .int (G 18 0)), (6, .int x121_6), (7, .int x121_7), (8, .int x148_8), (9, .int x148_9), (10, .int x121_10), (11, .int x148_11)] dX5_run_180 (by decide) rfl ?_
              refine g_iload_n F 2 dX5_run_182 rfl rfl ?_
              refine g_aload_n F 1 dX5_run_183 rfl rfl ?_
              refine xg_6_0 F i_X5 w_2 dX5_run_184 ?_
              refine xg_2_2 F i_X7 w_5 dX5_run_187 ?_
              refine g_aload_n F 1 dX5_run_190 rfl rfl ?_
              refine xg_6_8 F i_X5 w_0 dX5_run_191 ?_
              refine g_iload F 10 dX5_run_194 rfl ?_
              refine u_iald F 45 0 xc_45 rfl x148_11.toInt rfl (by omega) (by omega) dX5_run_196 (fun _ => True) (fun _ => trivial) (fun y28 by28 => ?_)
              refine g_iload F 6 dX5_run_197 rfl ?_
              refine u_callVi (k := 0) (n := 0) (b := a 12) (As := [.int y28, .int x121_7]) (st := [.int p2]) F (fun sz => S_X3_value_12 l D K a G24 y28 y28.toInt x121_7 x121_7.toInt rfl rfl hI25 sz) (cwV 2 hts gX5_run_X3_value rfl rfl rfl (by decide +kernel) ⟨Nat.le_of_ble_eq_true rfl, Nat.le_of_ble_eq_true rfl⟩) rfl 12 xc_12 rfl (Nat.le_of_ble_eq_true rfl) ⟨Nat.zero_le _, Nat.zero_le _⟩ dX5_run_199 (fun r29 G31 hw30 => ?_)
              have hI32 : xI G31 := hw30.1
              have hU33 : gu_un xcd [2400] G24 G31 := hw30.2.1
              have hp34 := hw30.2.2
              have b35 : (0 : Int) ≤ (G 12 1).toInt ∧ (G 12 1).toInt ≤ 80 := hI 12 1
              have q36 : (gcOK (tkr (G 23) ((G 12 1).toInt).toNat) → r29.toInt = (eV y28 x121_7 (tkr (G 23) ((G 12 1).toInt).toNat)).toInt) := by have h9 := hp34; (try simp only [(show G24 12 1 = (G 12 1) from (hU26 12 1 (by decide)).trans ((jU148 12 1 (by decide)).trans (jU121 12 1 (by decide)))), (show G24 12 1 = (G 12 1) from (hU26 12 1 (by decide)).trans ((jU148 12 1 (by decide)).trans (jU121 12 1 (by decide)))), (show G24 23 = (G 23) from (show G24 23 = Gj148 23 from funext fun k_ => hU26 23 k_ (show (2300 : Nat) ∉ ([613, 618, 2100, 2700, 4500, 4600, 4700, 4800] : List Nat) by decide)).trans ((show Gj148 23 = Gj121 23 from funext fun k_ => jU148 23 k_ (show (2300 : Nat) ∉ ([613, 614, 615, 617, 618, 619, 620, 2100, 2400, 2700, 4500, 4600, 4700, 4800] : List Nat) by decide)).trans ((show Gj121 23 = G 23 from funext fun k_ => jU121 23 k_ (show (2300 : Nat) ∉ ([608, 613, 614, 615, 617, 618, 619, 620, 2100, 2400, 2700, 4400, 4500, 4600, 4700, 4800] : List Nat) by decide))))), (show G24 23 = (G 23) from (show G24 23 = Gj148 23 from funext fun k_ => hU26 23 k_ (show (2300 : Nat) ∉ ([613, 618, 2100, 2700, 4500, 4600, 4700, 4800] : List Nat) by decide)).trans ((show Gj148 23 = Gj121 23 from funext fun k_ => jU148 23 k_ (show (2300 : Nat) ∉ ([613, 614, 615, 617, 618, 619, 620, 2100, 2400, 2700, 4500, 4600, 4700, 4800] : List Nat) by decide)).trans ((show Gj121 23 = G 23 from funext fun k_ => jU121 23 k_ (show (2300 : Nat) ∉ ([608, 613, 614, 615, 617, 618, 619, 620, 2100, 2400, 2700, 4400, 4500, 4600, 4700, 4800] : List Nat) by decide)))))] at h9); first | exact h9 | omega
              clear hp34 hw30
              refine g_iconst F 0 dX5_run_202 (by decide) ?_
              refine g_sipush F 999 dX5_run_203 (by decide) ?_
              refine u_call0 (k := 0) (n := 0) (As := [.int r29, .int 0, .int 999]) (st := [.int p2]) F (fun sz => S_X5_within l D r29 r29.toInt 0 0 999 999 rfl rfl rfl sz) (va_cwS 3 hts gX5_run_X5_within rfl rfl rfl (by decide +kernel) ⟨Nat.le_of_ble_eq_true rfl, Nat.le_of_ble_eq_true rfl⟩) rfl (Nat.le_of_ble_eq_true rfl) ⟨Nat.zero_le _, Nat.zero_le _⟩ dX5_run_206 (fun r37 _ hw38 => ?_)
              refine u0_iadd F dX5_run_209 (fun y40 => ?_)
              refine g_istore F [(13, .int y40), (12, .int r22), (0, .ref (a 6)), (3, .int p2), (4, .int p3), (5, .int (G 18 0)), (6, .int x121_6), (7, .int x121_7), (8, .int x148_8), (9, .int x148_9), (10, .int x121_10), (11, .int x148_11)] dX5_run_210 (by decide) rfl ?_
              refine g_aload_n F 2 dX5_run_212 rfl rfl ?_
              refine g_aload_n F 2 dX5_run_213 rfl rfl ?_
              refine xg_6_2 F i_X5 w_6 dX5_run_214 (G 6 2) ((hU33 6 2 (by decide)).trans ((hU26 6 2 (by decide)).trans ((jU148 6 2 (by decide)).trans (jU121 6 2 (by decide))))) ?_
              refine g_aload_n F 2 dX5_run_217 rfl rfl ?_
              refine xg_6_0 F i_X5 w_2 dX5_run_218 ?_
              refine g_iload F 9 dX5_run_221 rfl ?_
              refine u_callVi (k := 0) (n := 0) (b := a 2) (As := [.int x148_9]) (st := [.int (G 6 2), .ref (a 6)]) F (fun sz => S_X7_swayAt_2 l D K a G31 x148_9 x148_9.toInt rfl hI32 sz) (cwV 1 hts gX5_run_X7_swayAt rfl rfl rfl (by decide +kernel) ⟨Nat.le_of_ble_eq_true rfl, Nat.le_of_ble_eq_true rfl⟩) rfl 2 xc_2 rfl (Nat.le_of_ble_eq_true rfl) ⟨Nat.zero_le _, Nat.zero_le _⟩ dX5_run_223 (fun r41 _ hw42 => ?_)
              have rg44 := hw42
              clear hw42
              refine u0_iadd F dX5_run_226 (fun y45 => ?_)
              refine g_iload F 1 dX5_run_227 rfl ?_
              refine g_iload F 0 dX5_run_229 rfl ?_
              refine g_iload F 4 dX5_run_231 rfl ?_
              refine u_callVi (k := 0) (n := 0) (b := a 6) (As := [.int y45, .int r22, .int y40, .int p3]) (st := []) F (fun sz => S_X5_swingsTooFar l D K a G31 y45 y45.toInt r22 r22.toInt y40 y40.toInt p3 s3 rfl rfl rfl e3 hI32 sz) (cwV 4 hts gX5_run_X5_swingsTooFar rfl rfl rfl (by decide +kernel) ⟨Nat.le_of_ble_eq_true rfl, Nat.le_of_ble_eq_true rfl⟩) rfl 6 xc_6 rfl (Nat.le_of_ble_eq_true rfl) ⟨Nat.zero_le _, Nat.zero_le _⟩ dX5_run_233 (fun r46 G48 hw47 => ?_)
              have hI49 : xI G48 := hw47.1
              have hU50 : gu_un xcd [614, 615, 617, 619] G31 G48 := hw47.2.1
              have hp51 := hw47.2.2
              have rg52 := hp51
              clear hp51 hw47
              refine g_istore F [(8, .int r46), (13, .int y40), (12, .int r22), (0, .ref (a 6)), (3, .int p2), (4, .int p3), (5, .int (G 18 0)), (6, .int x121_6), (7, .int x121_7), (9, .int x148_9), (10, .int x121_10), (11, .int x148_11)] dX5_run_236 (by decide) rfl ?_
              refine g_aload_n F 3 dX5_run_238 rfl rfl ?_
              refine xg_6_0 F i_X5 w_2 dX5_run_239 ?_
              refine g_iload F 9 dX5_run_242 rfl ?_
              refine u_callVi (k := 0) (n := 0) (b := a 2) (As := [.int x148_9]) (st := []) F (fun sz => S_X7_swayBehind_2 l D K a G48 x148_9 x148_9.toInt rfl hI49 sz) (cwV 1 hts gX5_run_X7_swayBehind rfl rfl rfl (by decide +kernel) ⟨Nat.le_of_ble_eq_true rfl, Nat.le_of_ble_eq_true rfl⟩) rfl 2 xc_2 rfl (Nat.le_of_ble_eq_true rfl) ⟨Nat.zero_le _, Nat.zero_le _⟩ dX5_run_244 (fun r53 _ hw54 => ?_)
              refine g_istore F [(9, .int r53), (8, .int r46), (13, .int y40), (12, .int r22), (0, .ref (a 6)), (3, .int p2), (4, .int p3), (5, .int (G 18 0)), (6, .int x121_6), (7, .int x121_7), (10, .int x121_10), (11, .int x148_11)] dX5_run_247 (by decide) rfl ?_
              refine u_iinc F (fun v_ => [(11, .int v_), (9, .int r53), (8, .int r46), (13, .int y40), (12, .int r22), (0, .ref (a 6)), (3, .int p2), (4, .int p3), (5, .int (G 18 0)), (6, .int x121_6), (7, .int x121_7), (10, .int x121_10)]) dX5_run_249 (j := 11) rfl x148_11.toInt 1 rfl rfl (by omega) (by omega) (by decide) (fun _ => rfl) (fun y56 ey56 => ?_)
              refine g_goto F 148 dX5_run_252 (by decide) ?_
              refine g_locals [(0, .ref (a 6)), (3, .int p2), (4, .int p3), (5, .int (G 18 0)), (6, .int x121_6), (7, .int x121_7), (8, .int r46), (9, .int r53), (10, .int x121_10), (11, .int y56)] [5, 6, 7, 8, 9, 10, 2, 1, 11, 0] rfl ?_
              exact ih_148 r46 r53 y56 G48 (by omega) (by have h9 := ti_rng r46; omega) (by have h9 := ti_rng x121_10; omega) (by have h9 := ti_rng y56; omega) hI49 (gu_un.tr (gu_un.tr (gu_un.tr (gu_un.tr gu_un.rf (gu_un.su jU148 rfl)) (gu_un.su hU26 rfl)) (gu_un.su hU33 rfl)) (gu_un.su hU50 rfl)) (by have e9_6_1 : G48 6 1 = (G 6 1) := (hU50 6 1 (by decide)).trans ((hU33 6 1 (by decide)).trans ((hU26 6 1 (by decide)).trans ((jU148 6 1 (by decide)).trans (jU121 6 1 (by decide))))); (try simp only [e9_6_1, true_and, and_true]) <;> (first | omega | (simp only [Int32.reduceToInt, true_and, and_true, ne_eq, not_true_eq_false, false_and, or_false, false_or, true_or, or_true, false_implies] <;> omega)))
      refine g_iload F 8 dX5_run_121 rfl ?_
      refine g_aload_n F 0 dX5_run_123 rfl rfl ?_
      refine xg_6_4 F i_X5 w_7 dX5_run_124 (G 6 4) (jU121 6 4 (by decide)) ?_
      have b57 := ti_rng x121_10
      have b58 := ti_rng (G 6 4)
      refine v_icmp_ge F 261 dX5_run_127 (by decide) x121_10.toInt (G 6 4).toInt rfl rfl (fun c59 => ?_) (fun c59 => ?_)
      · refine g_locals [(0, .ref (a 6)), (5, .int (G 18 0)), (8, .int x121_8)] [0, 3, 6] rfl ?_
        exact J_261 x121_8 Gj121 (by have h9 := ti_rng x121_8; omega) jI121 (gu_un.tr gu_un.rf (gu_un.su jU121 rfl)) (by have e9_6_1 : Gj121 6 1 = (G 6 1) := jU121 6 1 (by decide); (try simp only [e9_6_1, true_and, and_true]) <;> (first | omega | (simp only [Int32.reduceToInt, true_and, and_true, ne_eq, not_true_eq_false, false_and, or_false, false_or, true_or, or_true, false_implies] <;> omega)))
      · refine g_iload F 6 dX5_run_130 rfl ?_
        refine v_if_ne F 261 dX5_run_132 (by decide) x121_8.toInt rfl (fun c60 => ?_) (fun c60 => ?_)
        · refine g_locals [(0, .ref (a 6)), (5, .int (G 18 0)), (8, .int x121_8)] [0, 3, 6] rfl ?_
          exact J_261 x121_8 Gj121 (by have h9 := ti_rng x121_8; omega) jI121 (gu_un.tr gu_un.rf (gu_un.su jU121 rfl)) (by have e9_6_1 : Gj121 6 1 = (G 6 1) := jU121 6 1 (by decide); (try simp only [e9_6_1, true_and, and_true]) <;> (first | omega | (simp only [Int32.reduceToInt, true_and, and_true, ne_eq, not_true_eq_false, false_and, or_false, false_or, true_or, or_true, false_implies] <;> omega)))
        · refine g_aload_n F 0 dX5_run_135 rfl rfl ?_
          refine g_dup F dX5_run_136 rfl ?_
          refine xg_6_19 F i_X5 w_8 dX5_run_137 (Gj121 6 19) (rfl) ?_
          refine g_iconst F 1 dX5_run_140 (by decide) ?_
          refine u_iaddc F dX5_run_141 (Gj121 6 19).toInt 1 rfl rfl (fun y61 ey61 => ?_)
          refine xp_6_19 F i_X5 w_8 dX5_run_142 ?_
          refine g_iconst F 0 dX5_run_145 (by decide) ?_
          refine g_istore F [(11, .int 0), (0, .ref (a 6)), (3, .int p2), (4, .int p3), (5, .int (G 18 0)), (6, .int x121_6), (7, .int x121_7), (8, .int x121_8), (9, .int x121_9), (10, .int x121_10)] dX5_run_146 (by decide) rfl ?_
          refine g_locals [(0, .ref (a 6)), (3, .int p2), (4, .int p3), (5, .int (G 18 0)), (6, .int x121_6), (7, .int x121_7), (8, .int x121_8), (9, .int x121_9), (10, .int x121_10), (11, .int 0)] [1, 2, 3, 4, 5, 6, 7, 8, 9, 0] rfl ?_
          exact J_148 _ x121_8 x121_9 0 (gu_up Gj121 6 19 y61) (Nat.lt_succ_self _) (by have h9 := ti_rng x121_8; omega) (by have h9 := ti_rng x121_10; omega) (by decide) (gu_I.up (j := 6) (k := 19) (v := y61) jI121 (ti_rng _).1 (ti_rng _).2) (gu_un.up (j := 6) (k := 19) (v := y61) gu_un.rf (show (620 : Nat) ∈ ([613, 614, 615, 617, 618, 619, 620, 2100, 2400, 2700, 4500, 4600, 4700, 4800] : List Nat) by decide)) (by have e9_6_1 : (gu_up Gj121 6 19 y61) 6 1 = (G 6 1) := jU121 6 1 (by decide); (try simp only [e9_6_1, true_and, and_true]) <;> (first | omega | (simp only [Int32.reduceToInt, true_and, and_true, ne_eq, not_true_eq_false, false_and, or_false, false_or, true_or, or_true, false_implies] <;> omega)))
  refine g_aload_n F 0 dX5_run_0 rfl rfl ?_
  refine xg_6_0 F i_X5 w_2 dX5_run_1 ?_
  refine xg_2_0 F i_X7 w_3 dX5_run_4 ?_
  refine g_iconst F 0 dX5_run_7 (by decide) ?_
  refine u1_iald F 18 0 xc_18 rfl 0 rfl (by decide) (by decide) dX5_run_8 (G 18 0) (rfl) ?_
  refine g_istore F [(5, .int (G 18 0)), (0, .ref (a 6)), (1, .ref (a 38)), (2, .int p1), (3, .int p2), (4, .int p3)] dX5_run_9 (by decide) rfl ?_
  refine g_aload_n F 1 dX5_run_11 rfl rfl ?_
  refine xg_6_0 F i_X5 w_2 dX5_run_12 ?_
  refine g_aload_n F 1 dX5_run_15 rfl rfl ?_
  refine xg_6_1 F i_X5 w_9 dX5_run_16 (G 6 1) (rfl) ?_
  refine u_callVi (k := 0) (n := 0) (b := a 2) (As := [.int (G 6 1)]) (st := []) F (fun sz => S_X7_hasRing_2 l D K a G (G 6 1) (G 6 1).toInt rfl hI sz) (cwV 1 hts gX5_run_X7_hasRing rfl rfl rfl (by decide +kernel) ⟨Nat.le_of_ble_eq_true rfl, Nat.le_of_ble_eq_true rfl⟩) rfl 2 xc_2 rfl (Nat.le_of_ble_eq_true rfl) ⟨Nat.zero_le _, Nat.zero_le _⟩ dX5_run_19 (fun r62 _ hw63 => ?_)
  rcases hw63 with ⟨rfl, q65⟩ | ⟨rfl, q66⟩
  · have b67 : (1 : Int) ≤ (G 18 1).toInt ∧ (G 18 1).toInt ≤ 6 := hI 18 1
    have q65 : (0 ≤ (G 6 1).toInt ∧ (G 6 1).toInt < (G 18 1).toInt) := q65
    refine v_if_eq F 45 dX5_run_22 (by decide) 1 rfl (fun c68 => absurd c68 (by decide)) (fun c68 => ?_)
    refine g_iload F 0 dX5_run_25 rfl ?_
    refine g_iconst F 1 dX5_run_27 (by decide) ?_
    have b69 : (4 : Int) ≤ (G 18 0).toInt ∧ (G 18 0).toInt ≤ 16 := hI 18 0
    refine v_icmp_lt F 45 dX5_run_28 (by decide) (G 18 0).toInt 1 rfl rfl (fun c70 => absurd c70 (by omega)) (fun c70 => ?_)
    refine g_iload F 0 dX5_run_31 rfl ?_
    refine g_bipush F 16 dX5_run_33 (by decide) ?_
    refine v_icmp_gt F 45 dX5_run_35 (by decide) (G 18 0).toInt 16 rfl rfl (fun c71 => absurd c71 (by omega)) (fun c71 => ?_)
    refine g_aload_n F 2 dX5_run_38 rfl rfl ?_
    refine g_alen F 38 0 xc_38 rfl 96 rfl dX5_run_39 ?_
    refine g_bipush F 96 dX5_run_40 (by decide) ?_
    refine v_icmp_ge F 48 dX5_run_42 (by decide) 96 96 rfl rfl (fun c72 => ?_) (fun c72 => absurd c72 (by decide))
    refine g_aload_n F 2 dX5_run_48 rfl rfl ?_
    refine g_aload_n F 1 dX5_run_49 rfl rfl ?_
    refine xg_6_1 F i_X5 w_9 dX5_run_50 (G 6 1) (rfl) ?_
    refine g_iconst F 0 dX5_run_53 (by decide) ?_
    refine u_call0 (k := 0) (n := 0) (As := [.int (G 6 1), .int 0]) (st := [.ref (a 38)]) F (fun sz => S_X6_placeOf_b5_b15 l D (G 6 1) (G 6 1).toInt 0 0 rfl (by omega) rfl (by decide) sz) (va_cwS 2 hts gX5_run_X6_placeOf rfl rfl rfl (by decide +kernel) ⟨Nat.le_of_ble_eq_true rfl, Nat.le_of_ble_eq_true rfl⟩) rfl (Nat.le_of_ble_eq_true rfl) ⟨Nat.zero_le _, Nat.zero_le _⟩ dX5_run_54 (fun r73 _ hw74 => ?_)
    have rg76 := hw74.1
    have rg77 := hw74.2
    clear hw74
    refine g_aload_n F 1 dX5_run_57 rfl rfl ?_
    refine xg_6_8 F i_X5 w_0 dX5_run_58 ?_
    refine g_iconst F 0 dX5_run_61 (by decide) ?_
    refine g_iload F 0 dX5_run_62 rfl ?_
    refine u_copyi F w_10 w_11 w_12 w_13 38 45 0 xc_38 xc_45 rfl r73.toInt 0 (G 18 0).toInt rfl rfl rfl (by omega) (by decide) (by omega) (by omega) (by omega) (Nat.le_of_ble_eq_true rfl) (Nat.le_of_ble_eq_true rfl) (xW K a (gu_st G 45 (va_cpy (G 38) (G 45) (r73.toInt).toNat 0 ((G 18 0).toInt).toNat))) (xs_45 _) dX5_run_64 ?_
    refine g_aload_n F 1 dX5_run_67 rfl rfl ?_
    refine xg_6_8 F i_X5 w_0 dX5_run_68 ?_
    refine g_iconst F 0 dX5_run_71 (by decide) ?_
    refine g_iload F 0 dX5_run_72 rfl ?_
    refine u_callSi (k := 0) (n := 0) (As := [.ref (a 45), .int 0, .int (G 18 0)]) (st := []) F (fun sz => S_X5_greatest_45 l D K a (gu_st G 45 (va_cpy (G 38) (G 45) (r73.toInt).toNat 0 ((G 18 0).toInt).toNat)) 0 0 (G 18 0) (G 18 0).toInt rfl rfl (gu_I.sw (j := 45) (f := (va_cpy (G 38) (G 45) (r73.toInt).toNat 0 ((G 18 0).toInt).toNat)) hI (fun _ => ti_rng _)) sz) (va_cwS 3 hts gX5_run_X5_greatest rfl rfl rfl (by decide +kernel) ⟨Nat.le_of_ble_eq_true rfl, Nat.le_of_ble_eq_true rfl⟩) rfl (Nat.le_of_ble_eq_true rfl) ⟨Nat.zero_le _, Nat.zero_le _⟩ dX5_run_74 (fun r78 _ hw79 => ?_)
    have rg81 := hw79
    clear hw79
    refine g_istore F [(6, .int r78), (5, .int (G 18 0)), (0, .ref (a 6)), (1, .ref (a 38)), (2, .int p1), (3, .int p2), (4, .int p3)] dX5_run_77 (by decide) rfl ?_
    refine g_iload F 0 dX5_run_79 rfl ?_
    refine g_aload_n F 2 dX5_run_81 rfl rfl ?_
    refine xg_6_3 F i_X5 w_4 dX5_run_82 (G 6 3) (rfl) ?_
    refine g_aload_n F 2 dX5_run_85 rfl rfl ?_
    refine xg_6_4 F i_X5 w_7 dX5_run_86 (G 6 4) (rfl) ?_
    refine u0_imul F dX5_run_89 (fun y82 => ?_)
    refine u0_isub F dX5_run_90 (fun y83 => ?_)
    refine g_iconst F 1 dX5_run_91 (by decide) ?_
    refine v_icmp_ge F 98 dX5_run_92 (by decide) y83.toInt 1 rfl rfl (fun c84 => ?_) (fun c84 => ?_)
    · refine g_aload_n F 2 dX5_run_98 rfl rfl ?_
      refine g_aload_n F 3 dX5_run_99 rfl rfl ?_
      refine g_iload F 0 dX5_run_100 rfl ?_
      have b85 := ti_rng r78
      refine u_callVi (k := 0) (n := 0) (b := a 6) (As := [.ref (a 38), .int r78]) (st := []) F (fun sz => S_X5_gapIn_38 l D K a (gu_st G 45 (va_cpy (G 38) (G 45) (r73.toInt).toNat 0 ((G 18 0).toInt).toNat)) r78 r78.toInt rfl (gu_I.sw (j := 45) (f := (va_cpy (G 38) (G 45) (r73.toInt).toNat 0 ((G 18 0).toInt).toNat)) hI (fun _ => ti_rng _)) sz) (cwV 2 hts gX5_run_X5_gapIn rfl rfl rfl (by decide +kernel) ⟨Nat.le_of_ble_eq_true rfl, Nat.le_of_ble_eq_true rfl⟩) rfl 6 xc_6 rfl (Nat.le_of_ble_eq_true rfl) ⟨Nat.zero_le _, Nat.zero_le _⟩ dX5_run_102 (fun r86 _ hw87 => ?_)
      refine g_istore F [(7, .int r86), (6, .int r78), (5, .int (G 18 0)), (0, .ref (a 6)), (1, .ref (a 38)), (2, .int p1), (3, .int p2), (4, .int p3)] dX5_run_105 (by decide) rfl ?_
      refine g_aload_n F 3 dX5_run_107 rfl rfl ?_
      refine g_iload_n F 5 dX5_run_108 rfl rfl ?_
      refine u_callVv (k := 0) (n := 0) (b := a 6) (As := [.int p1]) (st := []) F (fun sz => S_X5_begin l D K a (gu_st G 45 (va_cpy (G 38) (G 45) (r73.toInt).toNat 0 ((G 18 0).toInt).toNat)) p1 s1 e1 (gu_I.sw (j := 45) (f := (va_cpy (G 38) (G 45) (r73.toInt).toNat 0 ((G 18 0).toInt).toNat)) hI (fun _ => ti_rng _)) sz) (cwV 1 hts gX5_run_X5_begin rfl rfl rfl (by decide +kernel) ⟨Nat.le_of_ble_eq_true rfl, Nat.le_of_ble_eq_true rfl⟩) rfl 6 xc_6 rfl (Nat.le_of_ble_eq_true rfl) ⟨Nat.zero_le _, Nat.zero_le _⟩ dX5_run_109 (fun G91 hw90 => ?_)
      have hI92 : xI G91 := hw90.1
      have hU93 : gu_un xcd [608, 613, 614, 615, 617, 618, 619, 620, 4400, 4600] (gu_st G 45 (va_cpy (G 38) (G 45) (r73.toInt).toNat 0 ((G 18 0).toInt).toNat)) G91 := hw90.2
      refine g_iconst F 0 dX5_run_112 (by decide) ?_
      refine g_istore F [(8, .int 0), (7, .int r86), (6, .int r78), (5, .int (G 18 0)), (0, .ref (a 6)), (1, .ref (a 38)), (2, .int p1), (3, .int p2), (4, .int p3)] dX5_run_113 (by decide) rfl ?_
      refine g_iconst F 0 dX5_run_115 (by decide) ?_
      refine g_istore F [(9, .int 0), (8, .int 0), (7, .int r86), (6, .int r78), (5, .int (G 18 0)), (0, .ref (a 6)), (1, .ref (a 38)), (2, .int p1), (3, .int p2), (4, .int p3)] dX5_run_116 (by decide) rfl ?_
      refine g_iconst F 0 dX5_run_118 (by decide) ?_
      refine g_istore F [(10, .int 0), (9, .int 0), (8, .int 0), (7, .int r86), (6, .int r78), (5, .int (G 18 0)), (0, .ref (a 6)), (1, .ref (a 38)), (2, .int p1), (3, .int p2), (4, .int p3)] dX5_run_119 (by decide) rfl ?_
      refine g_locals [(0, .ref (a 6)), (3, .int p2), (4, .int p3), (5, .int (G 18 0)), (6, .int r78), (7, .int r86), (8, .int 0), (9, .int 0), (10, .int 0)] [6, 9, 10, 5, 4, 3, 2, 1, 0] rfl ?_
      exact J_121 _ r78 r86 0 0 0 G91 (Nat.lt_succ_self _) (by have h9 := ti_rng r78; omega) (by decide) (by decide) hI92 (gu_un.tr (gu_un.sw (j := 45) (f := (va_cpy (G 38) (G 45) (r73.toInt).toNat 0 ((G 18 0).toInt).toNat)) gu_un.rf (fun _ => show (4500 : Nat) ∈ ([608, 613, 614, 615, 617, 618, 619, 620, 2100, 2400, 2700, 4400, 4500, 4600, 4700, 4800] : List Nat) by decide)) (gu_un.su hU93 rfl)) (by have e9_6_1 : G91 6 1 = (G 6 1) := hU93 6 1 (by decide); (try simp only [e9_6_1, true_and, and_true]) <;> (first | omega | (simp only [Int32.reduceToInt, true_and, and_true, ne_eq, not_true_eq_false, false_and, or_false, false_or, true_or, or_true, false_implies] <;> omega)))
    · refine g_bipush F (-4) dX5_run_95 (by decide) ?_
      exact u_iret F hA hQ hr (gu_st G 45 (va_cpy (G 38) (G 45) (r73.toInt).toNat 0 ((G 18 0).toInt).toNat)) (⟨(gu_I.sw (j := 45) (f := (va_cpy (G 38) (G 45) (r73.toInt).toNat 0 ((G 18 0).toInt).toNat)) hI (fun _ => ti_rng _)), (gu_un.sw (j := 45) (f := (va_cpy (G 38) (G 45) (r73.toInt).toNat 0 ((G 18 0).toInt).toNat)) gu_un.rf (fun _ => show (4500 : Nat) ∈ ([608, 613, 614, 615, 616, 617, 618, 619, 620, 2100, 2400, 2700, 4400, 4500, 4600, 4700, 4800] : List Nat) by decide)), (by decide), (by show ((-4) = -4 ∨ (0 ≤ (-4) ∧ 0 ≤ (G 6 1).toInt ∧ (G 6 1).toInt ≤ 5)); (first | omega | (simp only [Int32.reduceToInt, true_and, and_true, ne_eq, not_true_eq_false, false_and, or_false, false_or, true_or, or_true, false_implies] <;> omega)))⟩) rfl rfl dX5_run_97
  · have b95 : (1 : Int) ≤ (G 18 1).toInt ∧ (G 18 1).toInt ≤ 6 := hI 18 1
    have q66 : ((G 6 1).toInt < 0 ∨ (G 18 1).toInt ≤ (G 6 1).toInt) := q66
    refine v_if_eq F 45 dX5_run_22 (by decide) 0 rfl (fun c96 => ?_) (fun c96 => absurd c96 (by decide))
    refine g_bipush F (-4) dX5_run_45 (by decide) ?_
    exact u_iret F hA hQ hr G (⟨hI, gu_un.rf, (by decide), (by show ((-4) = -4 ∨ (0 ≤ (-4) ∧ 0 ≤ (G 6 1).toInt ∧ (G 6 1).toInt ≤ 5)); (first | omega | (simp only [Int32.reduceToInt, true_and, and_true, ne_eq, not_true_eq_false, false_and, or_false, false_or, true_or, or_true, false_implies] <;> omega)))⟩) rfl rfl dX5_run_47

theorem dX6_takePass_0 : decode cX6_takePass 0 = .ok (.aload_n 1, 1) := by decide +kernel
theorem dX6_takePass_1 : decode cX6_takePass 1 = .ok (.aload_n 0, 1) := by decide +kernel
theorem dX6_takePass_2 : decode cX6_takePass 2 = .ok (.getfield 9, 3) := by decide +kernel
theorem dX6_takePass_5 : decode cX6_takePass 5 = .ok (.invokevirtual 51, 3) := by decide +kernel
theorem dX6_takePass_8 : decode cX6_takePass 8 = .ok (.aload_n 0, 1) := by decide +kernel
theorem dX6_takePass_9 : decode cX6_takePass 9 = .ok (.aload_n 1, 1) := by decide +kernel
theorem dX6_takePass_10 : decode cX6_takePass 10 = .ok (.getfield 57, 3) := by decide +kernel
theorem dX6_takePass_13 : decode cX6_takePass 13 = .ok (.putfield 34, 3) := by decide +kernel
theorem dX6_takePass_16 : decode cX6_takePass 16 = .ok (.iconst 0, 1) := by decide +kernel
theorem dX6_takePass_17 : decode cX6_takePass 17 = .ok (.istore_n 2, 1) := by decide +kernel
theorem dX6_takePass_18 : decode cX6_takePass 18 = .ok (.iload_n 2, 1) := by decide +kernel
theorem dX6_takePass_19 : decode cX6_takePass 19 = .ok (.aload_n 0, 1) := by decide +kernel
theorem dX6_takePass_20 : decode cX6_takePass 20 = .ok (.getfield 20, 3) := by decide +kernel
theorem dX6_takePass_23 : decode cX6_takePass 23 = .ok (.getfield 47, 3) := by decide +kernel
theorem dX6_takePass_26 : decode cX6_takePass 26 = .ok (.iconst 0, 1) := by decide +kernel
theorem dX6_takePass_27 : decode cX6_takePass 27 = .ok (.iaload, 1) := by decide +kernel
theorem dX6_takePass_28 : decode cX6_takePass 28 = .ok (.if_icmp .ge 102, 3) := by decide +kernel
theorem dX6_takePass_31 : decode cX6_takePass 31 = .ok (.iload_n 2, 1) := by decide +kernel
theorem dX6_takePass_32 : decode cX6_takePass 32 = .ok (.bipush 16, 2) := by decide +kernel
theorem dX6_takePass_34 : decode cX6_takePass 34 = .ok (.if_icmp .ge 96, 3) := by decide +kernel
theorem dX6_takePass_37 : decode cX6_takePass 37 = .ok (.aload_n 1, 1) := by decide +kernel
theorem dX6_takePass_38 : decode cX6_takePass 38 = .ok (.getfield 58, 3) := by decide +kernel
theorem dX6_takePass_41 : decode cX6_takePass 41 = .ok (.iload_n 2, 1) := by decide +kernel
theorem dX6_takePass_42 : decode cX6_takePass 42 = .ok (.invokestatic 61, 3) := by decide +kernel
theorem dX6_takePass_45 : decode cX6_takePass 45 = .ok (.istore_n 3, 1) := by decide +kernel
theorem dX6_takePass_46 : decode cX6_takePass 46 = .ok (.aload_n 1, 1) := by decide +kernel
theorem dX6_takePass_47 : decode cX6_takePass 47 = .ok (.getfield 65, 3) := by decide +kernel
theorem dX6_takePass_50 : decode cX6_takePass 50 = .ok (.iload_n 2, 1) := by decide +kernel
theorem dX6_takePass_51 : decode cX6_takePass 51 = .ok (.iaload, 1) := by decide +kernel
theorem dX6_takePass_52 : decode cX6_takePass 52 = .ok (.iconst (-1), 1) := by decide +kernel
theorem dX6_takePass_53 : decode cX6_takePass 53 = .ok (.if_icmp .eq 71, 3) := by decide +kernel
theorem dX6_takePass_56 : decode cX6_takePass 56 = .ok (.iload_n 3, 1) := by decide +kernel
theorem dX6_takePass_57 : decode cX6_takePass 57 = .ok (.ifCond .lt 67, 3) := by decide +kernel
theorem dX6_takePass_60 : decode cX6_takePass 60 = .ok (.iload_n 3, 1) := by decide +kernel
theorem dX6_takePass_61 : decode cX6_takePass 61 = .ok (.bipush 96, 2) := by decide +kernel
theorem dX6_takePass_63 : decode cX6_takePass 63 = .ok (.if_icmp .ge 61, 3) := by decide +kernel
theorem dX6_takePass_66 : decode cX6_takePass 66 = .ok (.aload_n 0, 1) := by decide +kernel
theorem dX6_takePass_67 : decode cX6_takePass 67 = .ok (.getfield 17, 3) := by decide +kernel
theorem dX6_takePass_70 : decode cX6_takePass 70 = .ok (.iconst 0, 1) := by decide +kernel
theorem dX6_takePass_71 : decode cX6_takePass 71 = .ok (.aaload, 1) := by decide +kernel
theorem dX6_takePass_72 : decode cX6_takePass 72 = .ok (.iload_n 3, 1) := by decide +kernel
theorem dX6_takePass_73 : decode cX6_takePass 73 = .ok (.aload_n 0, 1) := by decide +kernel
theorem dX6_takePass_74 : decode cX6_takePass 74 = .ok (.getfield 38, 3) := by decide +kernel
theorem dX6_takePass_77 : decode cX6_takePass 77 = .ok (.iastore, 1) := by decide +kernel
theorem dX6_takePass_78 : decode cX6_takePass 78 = .ok (.aload_n 0, 1) := by decide +kernel
theorem dX6_takePass_79 : decode cX6_takePass 79 = .ok (.getfield 17, 3) := by decide +kernel
theorem dX6_takePass_82 : decode cX6_takePass 82 = .ok (.iconst 1, 1) := by decide +kernel
theorem dX6_takePass_83 : decode cX6_takePass 83 = .ok (.aaload, 1) := by decide +kernel
theorem dX6_takePass_84 : decode cX6_takePass 84 = .ok (.iload_n 3, 1) := by decide +kernel
theorem dX6_takePass_85 : decode cX6_takePass 85 = .ok (.aload_n 1, 1) := by decide +kernel
theorem dX6_takePass_86 : decode cX6_takePass 86 = .ok (.getfield 65, 3) := by decide +kernel
theorem dX6_takePass_89 : decode cX6_takePass 89 = .ok (.iload_n 2, 1) := by decide +kernel
theorem dX6_takePass_90 : decode cX6_takePass 90 = .ok (.iaload, 1) := by decide +kernel
theorem dX6_takePass_91 : decode cX6_takePass 91 = .ok (.iastore, 1) := by decide +kernel
theorem dX6_takePass_92 : decode cX6_takePass 92 = .ok (.aload_n 0, 1) := by decide +kernel
theorem dX6_takePass_93 : decode cX6_takePass 93 = .ok (.getfield 17, 3) := by decide +kernel
theorem dX6_takePass_96 : decode cX6_takePass 96 = .ok (.iconst 2, 1) := by decide +kernel
theorem dX6_takePass_97 : decode cX6_takePass 97 = .ok (.aaload, 1) := by decide +kernel
theorem dX6_takePass_98 : decode cX6_takePass 98 = .ok (.iload_n 3, 1) := by decide +kernel
theorem dX6_takePass_99 : decode cX6_takePass 99 = .ok (.aload_n 1, 1) := by decide +kernel
theorem dX6_takePass_100 : decode cX6_takePass 100 = .ok (.getfield 68, 3) := by decide +kernel
theorem dX6_takePass_103 : decode cX6_takePass 103 = .ok (.iload_n 2, 1) := by decide +kernel
theorem dX6_takePass_104 : decode cX6_takePass 104 = .ok (.iaload, 1) := by decide +kernel
theorem dX6_takePass_105 : decode cX6_takePass 105 = .ok (.iastore, 1) := by decide +kernel
theorem dX6_takePass_106 : decode cX6_takePass 106 = .ok (.aload_n 0, 1) := by decide +kernel
theorem dX6_takePass_107 : decode cX6_takePass 107 = .ok (.getfield 17, 3) := by decide +kernel
theorem dX6_takePass_110 : decode cX6_takePass 110 = .ok (.iconst 3, 1) := by decide +kernel
theorem dX6_takePass_111 : decode cX6_takePass 111 = .ok (.aaload, 1) := by decide +kernel
theorem dX6_takePass_112 : decode cX6_takePass 112 = .ok (.iload_n 3, 1) := by decide +kernel
theorem dX6_takePass_113 : decode cX6_takePass 113 = .ok (.aload_n 1, 1) := by decide +kernel
theorem dX6_takePass_114 : decode cX6_takePass 114 = .ok (.getfield 71, 3) := by decide +kernel
theorem dX6_takePass_117 : decode cX6_takePass 117 = .ok (.iload_n 2, 1) := by decide +kernel
theorem dX6_takePass_118 : decode cX6_takePass 118 = .ok (.iaload, 1) := by decide +kernel
theorem dX6_takePass_119 : decode cX6_takePass 119 = .ok (.sipush 20000, 3) := by decide +kernel
theorem dX6_takePass_122 : decode cX6_takePass 122 = .ok (.iadd, 1) := by decide +kernel
theorem dX6_takePass_123 : decode cX6_takePass 123 = .ok (.iastore, 1) := by decide +kernel
theorem dX6_takePass_124 : decode cX6_takePass 124 = .ok (.iinc 2 1, 3) := by decide +kernel
theorem dX6_takePass_127 : decode cX6_takePass 127 = .ok (.goto (-109), 3) := by decide +kernel
theorem dX6_takePass_130 : decode cX6_takePass 130 = .ok (.aload_n 0, 1) := by decide +kernel
theorem dX6_takePass_131 : decode cX6_takePass 131 = .ok (.dup, 1) := by decide +kernel
theorem dX6_takePass_132 : decode cX6_takePass 132 = .ok (.getfield 38, 3) := by decide +kernel
theorem dX6_takePass_135 : decode cX6_takePass 135 = .ok (.iconst 1, 1) := by decide +kernel
theorem dX6_takePass_136 : decode cX6_takePass 136 = .ok (.iadd, 1) := by decide +kernel
theorem dX6_takePass_137 : decode cX6_takePass 137 = .ok (.putfield 38, 3) := by decide +kernel
theorem dX6_takePass_140 : decode cX6_takePass 140 = .ok (.return_, 1) := by decide +kernel
set_option maxRecDepth 20000 in
theorem ggX6_takePass_X5_storeHeights : GoodIn wsX6_takePass wsX5_storeHeights := goodIn_r _ [16, 17, 18, 19, 20, 21, 22, 23, 24, 31, 32, 33, 34, 35, 36, 37, 38, 39, 40, 41, 42, 43, 44, 45, 46, 47, 48, 49, 50, 51, 52, 53, 54] rfl (by decide +kernel)
set_option maxRecDepth 20000 in
theorem gX6_takePass_X5_storeHeights : GoodIn wsX6_takePass (wsV RX6 51 RX5 yX5_storeHeights wsX5_storeHeights) := goodIn_app (goodIn_of _ (by decide +kernel)) ggX6_takePass_X5_storeHeights
set_option maxRecDepth 20000 in
theorem ggX6_takePass_X6_placeOf : GoodIn wsX6_takePass wsX6_placeOf := goodIn_r _ [24] rfl (by decide +kernel)
set_option maxRecDepth 20000 in
theorem gX6_takePass_X6_placeOf : GoodIn wsX6_takePass (va_wsS RX6 61 yX6_placeOf wsX6_placeOf) := goodIn_app (goodIn_of _ (by decide +kernel)) ggX6_takePass_X6_placeOf
set_option maxHeartbeats 4000000 in
set_option maxRecDepth 100000 in
theorem S_X6_takePass_6 (l : Launch) (D : va_G) (K : Nat → ClassId) (a : Nat → Nat) (G : gS) (hrg : (0 ≤ (G 6 1).toInt ∧ (G 6 1).toInt ≤ 5)) (hI : xI G) (sz : Nat) : Kv l yX6_takePass wsX6_takePass 3 85 0 0 D [.ref (a 5), .ref (a 6)] (xW K a G) (tK K) sz (fun (G' : gS) => (xI G') ∧ (gu_un xcd [503, 504, 3800, 4000, 4100, 4200, 4300] G G')) (fun (G' : gS) => (xW K a G')) (fun _ => (tK K)) := by
  unfold Kv
  refine g_ofW (cc := cX6_takePass) (lv := [(0, .ref (a 5)), (1, .ref (a 6))]) (by decide) rfl (Nat.le_of_ble_eq_true rfl) rfl ?_
  intro p e s m args below meth c A Q hA hQ F hr hnm
  have hts := F.2.2.2.2.1
  have w_0 : (Cond.fieldLink RX6 20 "QuietCut$Piece" "shop" "LQuietCut$Shop;").before args s = true := hts _ (List.mem_of_getElem? (i := 4) rfl)
  have i_X6 : ∀ w ∈ u_ws RX6 TX6 5, w ∈ wsX6_takePass := fun _ h => List.mem_cons_of_mem _ (List.mem_append_left _ (List.mem_append_left _ (List.mem_append_right _ h)))
  have w_1 : (Cond.fieldLink RX6 47 "QuietCut$Shop" "numbers" "[I").before args s = true := hts _ (List.mem_of_getElem? (i := 5) rfl)
  have i_X7 : ∀ w ∈ u_ws RX7 TX7 4, w ∈ wsX6_takePass := fun _ h => List.mem_cons_of_mem _ (List.mem_append_right _ h)
  have w_2 : (Cond.fieldLink RX6 38 "QuietCut$Piece" "passes" "I").before args s = true := hts _ (List.mem_of_getElem? (i := 9) rfl)
  have w_3 : (Cond.fieldLink RX6 58 "QuietCut$Lathe" "ring" "I").before args s = true := hts _ (List.mem_of_getElem? (i := 6) rfl)
  have i_X5 : ∀ w ∈ u_ws RX5 TX5 20, w ∈ wsX6_takePass := fun _ h => List.mem_cons_of_mem _ (List.mem_append_left _ (List.mem_append_right _ h))
  have w_4 : (Cond.fieldLink RX6 65 "QuietCut$Lathe" "leftTurn" "[I").before args s = true := hts _ (List.mem_of_getElem? (i := 7) rfl)
  have w_5 : (Cond.fieldLink RX6 17 "QuietCut$Piece" "left" "[[I").before args s = true := hts _ (List.mem_of_getElem? (i := 8) rfl)
  have w_6 : (Cond.fieldLink RX6 68 "QuietCut$Lathe" "leftTooth" "[I").before args s = true := hts _ (List.mem_of_getElem? (i := 10) rfl)
  have w_7 : (Cond.fieldLink RX6 71 "QuietCut$Lathe" "leftX" "[I").before args s = true := hts _ (List.mem_of_getElem? (i := 11) rfl)
  have w_8 : (Cond.fieldLink RX6 9 "QuietCut$Piece" "heights" "[I").before args s = true := hts _ (List.mem_of_getElem? (i := 1) rfl)
  have w_9 : (Cond.fieldLink RX6 57 "QuietCut$Lathe" "wear" "I").before args s = true := hts _ (List.mem_of_getElem? (i := 2) rfl)
  have w_10 : (Cond.fieldLink RX6 34 "QuietCut$Piece" "wear" "I").before args s = true := hts _ (List.mem_of_getElem? (i := 3) rfl)
  have J_18 : ∀ (fuel : Nat) (x18_2 : Int32) (Gj18 : gS), (2147483647 - x18_2.toInt).toNat < fuel → (0 ≤ x18_2.toInt ∧ x18_2.toInt ≤ 16) → (xI Gj18) → (gu_un xcd [503, 3800, 4000, 4100, 4200, 4300] G Gj18) → gG p l e (gR 3 0 0 85) s m args below meth c D A 4 Q 0 0 (xW K a Gj18) (tK K) [(0, .ref (a 5)), (1, .ref (a 6)), (2, .int x18_2)] 18 [] := by
    intro fuel
    induction fuel with
    | zero => intro x18_2 Gj18 hm; exact absurd hm (Nat.not_lt_zero _)
    | succ fuel_18 ih_18 =>
      intro x18_2 Gj18 hm_18 h18_2 jI18 jU18
      have J_124 : ∀  (Gj124 : gS), (0 ≤ x18_2.toInt ∧ x18_2.toInt ≤ 15) → (xI Gj124) → (gu_un xcd [4000, 4100, 4200, 4300] Gj18 Gj124) → gG p l e (gR 3 0 0 85) s m args below meth c D A 4 Q 0 0 (xW K a Gj124) (tK K) [(0, .ref (a 5)), (1, .ref (a 6)), (2, .int x18_2)] 124 [] := by
        intro Gj124 k124_2 jI124 jU124
        refine u_iinc F (fun v_ => [(2, .int v_), (0, .ref (a 5)), (1, .ref (a 6))]) dX6_takePass_124 (j := 2) rfl x18_2.toInt 1 rfl rfl (by omega) (by omega) (by decide) (fun _ => rfl) (fun y1 ey1 => ?_)
        refine g_goto F 18 dX6_takePass_127 (by decide) ?_
        refine g_locals [(0, .ref (a 5)), (1, .ref (a 6)), (2, .int y1)] [1, 2, 0] rfl ?_
        exact ih_18 y1 Gj124 (by omega) (by have h9 := ti_rng y1; omega) jI124 (gu_un.tr (gu_un.tr gu_un.rf (gu_un.su jU18 rfl)) (gu_un.su jU124 rfl))
      refine g_iload_n F 2 dX6_takePass_18 rfl rfl ?_
      refine g_aload_n F 0 dX6_takePass_19 rfl rfl ?_
      refine xg_5_0 F i_X6 w_0 dX6_takePass_20 ?_
      refine xg_2_0 F i_X7 w_1 dX6_takePass_23 ?_
      refine g_iconst F 0 dX6_takePass_26 (by decide) ?_
      refine u1_iald F 18 0 xc_18 rfl 0 rfl (by decide) (by decide) dX6_takePass_27 (G 18 0) (jU18 18 0 (by decide)) ?_
      have b2 : (4 : Int) ≤ (G 18 0).toInt ∧ (G 18 0).toInt ≤ 16 := hI 18 0
      refine v_icmp_ge F 130 dX6_takePass_28 (by decide) x18_2.toInt (G 18 0).toInt rfl rfl (fun c3 => ?_) (fun c3 => ?_)
      · refine g_aload_n F 0 dX6_takePass_130 rfl rfl ?_
        refine g_dup F dX6_takePass_131 rfl ?_
        refine xg_5_3 F i_X6 w_2 dX6_takePass_132 (G 5 3) (jU18 5 3 (by decide)) ?_
        refine g_iconst F 1 dX6_takePass_135 (by decide) ?_
        refine u_iaddc F dX6_takePass_136 (G 5 3).toInt 1 rfl rfl (fun y4 ey4 => ?_)
        refine xp_5_3 F i_X6 w_2 dX6_takePass_137 ?_
        exact u_vret F hA hQ hr (gu_up Gj18 5 3 y4) (⟨(gu_I.up (j := 5) (k := 3) (v := y4) jI18 (ti_rng _).1 (ti_rng _).2), (gu_un.up (j := 5) (k := 3) (v := y4) (gu_un.tr gu_un.rf (gu_un.su jU18 rfl)) (show (504 : Nat) ∈ ([503, 504, 3800, 4000, 4100, 4200, 4300] : List Nat) by decide))⟩) rfl rfl dX6_takePass_140
      · refine g_iload_n F 2 dX6_takePass_31 rfl rfl ?_
        refine g_bipush F 16 dX6_takePass_32 (by decide) ?_
        refine v_icmp_ge F 130 dX6_takePass_34 (by decide) x18_2.toInt 16 rfl rfl (fun c5 => absurd c5 (by omega)) (fun c5 => ?_)
        refine g_aload_n F 1 dX6_takePass_37 rfl rfl ?_
        refine xg_6_1 F i_X5 w_3 dX6_takePass_38 (G 6 1) (jU18 6 1 (by decide)) ?_
        refine g_iload_n F 2 dX6_takePass_41 rfl rfl ?_
        refine u_call0 (k := 0) (n := 0) (As := [.int (G 6 1), .int x18_2]) (st := []) F (fun sz => S_X6_placeOf_b5_b15 l D (G 6 1) (G 6 1).toInt x18_2 x18_2.toInt rfl (by omega) rfl (by omega) sz) (va_cwS 2 hts gX6_takePass_X6_placeOf rfl rfl rfl (by decide +kernel) ⟨Nat.le_of_ble_eq_true rfl, Nat.le_of_ble_eq_true rfl⟩) rfl (Nat.le_of_ble_eq_true rfl) ⟨Nat.zero_le _, Nat.zero_le _⟩ dX6_takePass_42 (fun r6 _ hw7 => ?_)
        have rg9 := hw7.1
        have rg10 := hw7.2
        clear hw7
        refine g_istore_n F [(3, .int r6), (0, .ref (a 5)), (1, .ref (a 6)), (2, .int x18_2)] dX6_takePass_45 rfl (by decide) rfl ?_
        refine g_aload_n F 2 dX6_takePass_46 rfl rfl ?_
        refine xg_6_9 F i_X5 w_4 dX6_takePass_47 ?_
        refine g_iload_n F 3 dX6_takePass_50 rfl rfl ?_
        refine u_iald F 46 0 xc_46 rfl x18_2.toInt rfl (by omega) (by omega) dX6_takePass_51 (fun _ => True) (fun _ => trivial) (fun y11 by11 => ?_)
        refine g_iconst F (-1) dX6_takePass_52 (by decide) ?_
        refine v_icmp_eq F 124 dX6_takePass_53 (by decide) y11.toInt (-1) rfl rfl (fun c12 => ?_) (fun c12 => ?_)
        · refine g_locals [(0, .ref (a 5)), (1, .ref (a 6)), (2, .int x18_2)] [1, 2, 3] rfl ?_
          exact J_124 Gj18 (by have h9 := ti_rng x18_2; omega) jI18 gu_un.rf
        · refine g_iload_n F 0 dX6_takePass_56 rfl rfl ?_
          refine v_if_lt F 124 dX6_takePass_57 (by decide) r6.toInt rfl (fun c13 => absurd c13 (by omega)) (fun c13 => ?_)
          refine g_iload_n F 0 dX6_takePass_60 rfl rfl ?_
          refine g_bipush F 96 dX6_takePass_61 (by decide) ?_
          refine v_icmp_ge F 124 dX6_takePass_63 (by decide) r6.toInt 96 rfl rfl (fun c14 => absurd c14 (by omega)) (fun c14 => ?_)
          refine g_aload_n F 1 dX6_takePass_66 rfl rfl ?_
          refine xg_5_4 F i_X6 w_5 dX6_takePass_67 ?_
          refine g_iconst F 0 dX6_takePass_70 (by decide) ?_
          refine g_aald (b := a 40) F 39 1 xc_39 rfl (ti_in (show Int32.toInt 0 = 0 from rfl) (by decide) (by decide)) (by rw [show Int32.toNatClampNeg 0 = 0 from congrArg Int.toNat (show Int32.toInt 0 = 0 from rfl)]; rfl) dX6_takePass_71 ?_
          refine g_iload_n F 0 dX6_takePass_72 rfl rfl ?_
          refine g_aload_n F 1 dX6_takePass_73 rfl rfl ?_
          refine xg_5_3 F i_X6 w_2 dX6_takePass_74 (G 5 3) (jU18 5 3 (by decide)) ?_
          refine u_iast F 40 0 xc_40 rfl r6.toInt rfl (by omega) (by omega) (xW K a (gu_up Gj18 40 (r6.toInt).toNat (G 5 3))) (xs_40 _) dX6_takePass_77 ?_
          refine g_aload_n F 1 dX6_takePass_78 rfl rfl ?_
          refine xg_5_4 F i_X6 w_5 dX6_takePass_79 ?_
          refine g_iconst F 1 dX6_takePass_82 (by decide) ?_
          refine g_aald (b := a 41) F 39 1 xc_39 rfl (ti_in (show Int32.toInt 1 = 1 from rfl) (by decide) (by decide)) (by rw [show Int32.toNatClampNeg 1 = 1 from congrArg Int.toNat (show Int32.toInt 1 = 1 from rfl)]; rfl) dX6_takePass_83 ?_
          refine g_iload_n F 0 dX6_takePass_84 rfl rfl ?_
          refine g_aload_n F 2 dX6_takePass_85 rfl rfl ?_
          refine xg_6_9 F i_X5 w_4 dX6_takePass_86 ?_
          refine g_iload_n F 3 dX6_takePass_89 rfl rfl ?_
          refine u_iald F 46 0 xc_46 rfl x18_2.toInt rfl (by omega) (by omega) dX6_takePass_90 (fun _ => True) (fun _ => trivial) (fun y15 by15 => ?_)
          refine u_iast F 41 0 xc_41 rfl r6.toInt rfl (by omega) (by omega) (xW K a (gu_up (gu_up Gj18 40 (r6.toInt).toNat (G 5 3)) 41 (r6.toInt).toNat y15)) (xs_41 _) dX6_takePass_91 ?_
          refine g_aload_n F 1 dX6_takePass_92 rfl rfl ?_
          refine xg_5_4 F i_X6 w_5 dX6_takePass_93 ?_
          refine g_iconst F 2 dX6_takePass_96 (by decide) ?_
          refine g_aald (b := a 42) F 39 1 xc_39 rfl (ti_in (show Int32.toInt 2 = 2 from rfl) (by decide) (by decide)) (by rw [show Int32.toNatClampNeg 2 = 2 from congrArg Int.toNat (show Int32.toInt 2 = 2 from rfl)]; rfl) dX6_takePass_97 ?_
          refine g_iload_n F 0 dX6_takePass_98 rfl rfl ?_
          refine g_aload_n F 2 dX6_takePass_99 rfl rfl ?_
          refine xg_6_10 F i_X5 w_6 dX6_takePass_100 ?_
          refine g_iload_n F 3 dX6_takePass_103 rfl rfl ?_
          refine u_iald F 47 0 xc_47 rfl x18_2.toInt rfl (by omega) (by omega) dX6_takePass_104 (fun _ => True) (fun _ => trivial) (fun y16 by16 => ?_)
          refine u_iast F 42 0 xc_42 rfl r6.toInt rfl (by omega) (by omega) (xW K a (gu_up (gu_up (gu_up Gj18 40 (r6.toInt).toNat (G 5 3)) 41 (r6.toInt).toNat y15) 42 (r6.toInt).toNat y16)) (xs_42 _) dX6_takePass_105 ?_
          refine g_aload_n F 1 dX6_takePass_106 rfl rfl ?_
          refine xg_5_4 F i_X6 w_5 dX6_takePass_107 ?_
          refine g_iconst F 3 dX6_takePass_110 (by decide) ?_
          refine g_aald (b := a 43) F 39 1 xc_39 rfl (ti_in (show Int32.toInt 3 = 3 from rfl) (by decide) (by decide)) (by rw [show Int32.toNatClampNeg 3 = 3 from congrArg Int.toNat (show Int32.toInt 3 = 3 from rfl)]; rfl) dX6_takePass_111 ?_
          refine g_iload_n F 0 dX6_takePass_112 rfl rfl ?_
          refine g_aload_n F 2 dX6_takePass_113 rfl rfl ?_
          refine xg_6_11 F i_X5 w_7 dX6_takePass_114 ?_
          refine g_iload_n F 3 dX6_takePass_117 rfl rfl ?_
          refine u_iald F 48 0 xc_48 rfl x18_2.toInt rfl (by omega) (by omega) dX6_takePass_118 (fun _ => True) (fun _ => trivial) (fun y17 by17 => ?_)
          refine g_sipush F 20000 dX6_takePass_119 (by decide) ?_
          refine u_iaddc F dX6_takePass_122 y17.toInt 20000 rfl rfl (fun y18 ey18 => ?_)
          refine u_iast F 43 0 xc_43 rfl r6.toInt rfl (by omega) (by omega) (xW K a (gu_up (gu_up (gu_up (gu_up Gj18 40 (r6.toInt).toNat (G 5 3)) 41 (r6.toInt).toNat y15) 42 (r6.toInt).toNat y16) 43 (r6.toInt).toNat y18)) (xs_43 _) dX6_takePass_123 ?_
          refine g_locals [(0, .ref (a 5)), (1, .ref (a 6)), (2, .int x18_2)] [1, 2, 3] rfl ?_
          exact J_124 (gu_up (gu_up (gu_up (gu_up Gj18 40 (r6.toInt).toNat (G 5 3)) 41 (r6.toInt).toNat y15) 42 (r6.toInt).toNat y16) 43 (r6.toInt).toNat y18) (by have h9 := ti_rng x18_2; omega) (gu_I.up (j := 43) (k := (r6.toInt).toNat) (v := y18) (gu_I.up (j := 42) (k := (r6.toInt).toNat) (v := y16) (gu_I.up (j := 41) (k := (r6.toInt).toNat) (v := y15) (gu_I.up (j := 40) (k := (r6.toInt).toNat) (v := (G 5 3)) jI18 (ti_rng _).1 (ti_rng _).2) (ti_rng _).1 (ti_rng _).2) (ti_rng _).1 (ti_rng _).2) (ti_rng _).1 (ti_rng _).2) (gu_un.up (j := 43) (k := (r6.toInt).toNat) (v := y18) (gu_un.up (j := 42) (k := (r6.toInt).toNat) (v := y16) (gu_un.up (j := 41) (k := (r6.toInt).toNat) (v := y15) (gu_un.up (j := 40) (k := (r6.toInt).toNat) (v := (G 5 3)) gu_un.rf (show (4000 : Nat) ∈ ([4000, 4100, 4200, 4300] : List Nat) by decide)) (show (4100 : Nat) ∈ ([4000, 4100, 4200, 4300] : List Nat) by decide)) (show (4200 : Nat) ∈ ([4000, 4100, 4200, 4300] : List Nat) by decide)) (show (4300 : Nat) ∈ ([4000, 4100, 4200, 4300] : List Nat) by decide))
  refine g_aload_n F 1 dX6_takePass_0 rfl rfl ?_
  refine g_aload_n F 0 dX6_takePass_1 rfl rfl ?_
  refine xg_5_1 F i_X6 w_8 dX6_takePass_2 ?_
  refine u_callVv (k := 0) (n := 0) (b := a 6) (As := [.ref (a 38)]) (st := []) F (fun sz => S_X5_storeHeights_38 l D K a G  (by (first | omega | (simp only [Int32.reduceToInt, true_and, and_true, ne_eq, not_true_eq_false, false_and, or_false, false_or, true_or, or_true, false_implies] <;> omega))) hI sz) (cwV 1 hts gX6_takePass_X5_storeHeights rfl rfl rfl (by decide +kernel) ⟨Nat.le_of_ble_eq_true rfl, Nat.le_of_ble_eq_true rfl⟩) rfl 6 xc_6 rfl (Nat.le_of_ble_eq_true rfl) ⟨Nat.zero_le _, Nat.zero_le _⟩ dX6_takePass_5 (fun G21 hw20 => ?_)
  have hI22 : xI G21 := hw20.1
  have hU23 : gu_un xcd [3800] G G21 := hw20.2
  refine g_aload_n F 0 dX6_takePass_8 rfl rfl ?_
  refine g_aload_n F 1 dX6_takePass_9 rfl rfl ?_
  refine xg_6_12 F i_X5 w_9 dX6_takePass_10 (G 6 12) (hU23 6 12 (by decide)) ?_
  refine xp_5_2 F i_X6 w_10 dX6_takePass_13 ?_
  refine g_iconst F 0 dX6_takePass_16 (by decide) ?_
  refine g_istore_n F [(2, .int 0), (0, .ref (a 5)), (1, .ref (a 6))] dX6_takePass_17 rfl (by decide) rfl ?_
  refine g_locals [(0, .ref (a 5)), (1, .ref (a 6)), (2, .int 0)] [1, 2, 0] rfl ?_
  exact J_18 _ 0 (gu_up G21 5 2 (G 6 12)) (Nat.lt_succ_self _) (by decide) (gu_I.up (j := 5) (k := 2) (v := (G 6 12)) hI22 (ti_rng _).1 (ti_rng _).2) (gu_un.up (j := 5) (k := 2) (v := (G 6 12)) (gu_un.tr gu_un.rf (gu_un.su hU23 rfl)) (show (503 : Nat) ∈ ([503, 3800, 4000, 4100, 4200, 4300] : List Nat) by decide))
