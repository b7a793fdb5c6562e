theorem dX5_mayHold_0 : decode cX5_mayHold 0 = .ok (.iload_n 0, 1) := by decide +kernel
theorem dX5_mayHold_1 : decode cX5_mayHold 1 = .ok (.ifCond .lt 25, 3) := by decide +kernel
theorem dX5_mayHold_4 : decode cX5_mayHold 4 = .ok (.iload_n 0, 1) := by decide +kernel
theorem dX5_mayHold_5 : decode cX5_mayHold 5 = .ok (.sipush 300, 3) := by decide +kernel
theorem dX5_mayHold_8 : decode cX5_mayHold 8 = .ok (.if_icmp .gt 18, 3) := by decide +kernel
theorem dX5_mayHold_11 : decode cX5_mayHold 11 = .ok (.iload_n 1, 1) := by decide +kernel
theorem dX5_mayHold_12 : decode cX5_mayHold 12 = .ok (.ifCond .lt 14, 3) := by decide +kernel
theorem dX5_mayHold_15 : decode cX5_mayHold 15 = .ok (.iload_n 1, 1) := by decide +kernel
theorem dX5_mayHold_16 : decode cX5_mayHold 16 = .ok (.sipush 300, 3) := by decide +kernel
theorem dX5_mayHold_19 : decode cX5_mayHold 19 = .ok (.if_icmp .gt 7, 3) := by decide +kernel
theorem dX5_mayHold_22 : decode cX5_mayHold 22 = .ok (.iconst 1, 1) := by decide +kernel
theorem dX5_mayHold_23 : decode cX5_mayHold 23 = .ok (.goto 4, 3) := by decide +kernel
theorem dX5_mayHold_26 : decode cX5_mayHold 26 = .ok (.iconst 0, 1) := by decide +kernel
theorem dX5_mayHold_27 : decode cX5_mayHold 27 = .ok (.ireturn, 1) := by decide +kernel
set_option maxHeartbeats 4000000 in
set_option maxRecDepth 100000 in
theorem S_X5_mayHold (l : Launch) (D : va_G)  (p0 : Int32) (s0 : Int) (p1 : Int32) (s1 : Int) (e0 : p0.toInt = s0) (e1 : p1.toInt = s1) (sz : Nat) : Ki l yX5_mayHold wsX5_mayHold 1 40 0 0 D [.int p0, .int p1] [] [] sz (fun (r : Int32) (_ : Unit) => ((r = 1 ∧ (0 ≤ s0 ∧ s0 ≤ 300 ∧ 0 ≤ s1 ∧ s1 ≤ 300)) ∨ (r = 0 ∧ ¬ (0 ≤ s0 ∧ s0 ≤ 300 ∧ 0 ≤ s1 ∧ s1 ≤ 300)))) (fun (_ : Unit) => []) (fun _ => []) := by
  unfold Ki
  refine g_ofW (cc := cX5_mayHold) (lv := [(0, .int p0), (1, .int p1)]) (by decide) rfl (Nat.le_of_ble_eq_true rfl) rfl ?_
  intro p e s m args below meth c A Q hA hQ F hr hnm
  have hts := F.2.2.2.2.1
  have rg0 : -2147483648 ≤ s0 ∧ s0 ≤ 2147483647 := e0 ▸ ti_rng p0
  have rg1 : -2147483648 ≤ s1 ∧ s1 ≤ 2147483647 := e1 ▸ ti_rng p1
  refine g_iload_n F 0 dX5_mayHold_0 rfl rfl ?_
  refine v_if_lt F 26 dX5_mayHold_1 (by decide) s0 e0 (fun c1 => ?_) (fun c1 => ?_)
  · refine g_iconst F 0 dX5_mayHold_26 (by decide) ?_
    exact u_zret F hA hQ hr rfl () ((Or.inr (⟨rfl, by first | trivial | omega⟩))) rfl rfl dX5_mayHold_27
  · refine g_iload_n F 0 dX5_mayHold_4 rfl rfl ?_
    refine g_sipush F 300 dX5_mayHold_5 (by decide) ?_
    refine v_icmp_gt F 26 dX5_mayHold_8 (by decide) s0 300 e0 rfl (fun c2 => ?_) (fun c2 => ?_)
    · refine g_iconst F 0 dX5_mayHold_26 (by decide) ?_
      exact u_zret F hA hQ hr rfl () ((Or.inr (⟨rfl, by first | trivial | omega⟩))) rfl rfl dX5_mayHold_27
    · refine g_iload_n F 1 dX5_mayHold_11 rfl rfl ?_
      refine v_if_lt F 26 dX5_mayHold_12 (by decide) s1 e1 (fun c3 => ?_) (fun c3 => ?_)
      · refine g_iconst F 0 dX5_mayHold_26 (by decide) ?_
        exact u_zret F hA hQ hr rfl () ((Or.inr (⟨rfl, by first | trivial | omega⟩))) rfl rfl dX5_mayHold_27
      · refine g_iload_n F 1 dX5_mayHold_15 rfl rfl ?_
        refine g_sipush F 300 dX5_mayHold_16 (by decide) ?_
        refine v_icmp_gt F 26 dX5_mayHold_19 (by decide) s1 300 e1 rfl (fun c4 => ?_) (fun c4 => ?_)
        · refine g_iconst F 0 dX5_mayHold_26 (by decide) ?_
          exact u_zret F hA hQ hr rfl () ((Or.inr (⟨rfl, by first | trivial | omega⟩))) rfl rfl dX5_mayHold_27
        · refine g_iconst F 1 dX5_mayHold_22 (by decide) ?_
          refine g_goto F 27 dX5_mayHold_23 (by decide) ?_
          exact u_zret F hA hQ hr rfl () ((Or.inl (⟨rfl, by first | trivial | omega⟩))) rfl rfl dX5_mayHold_27

theorem dX5_takes_0 : decode cX5_takes 0 = .ok (.aload_n 0, 1) := by decide +kernel
theorem dX5_takes_1 : decode cX5_takes 1 = .ok (.iload_n 1, 1) := by decide +kernel
theorem dX5_takes_2 : decode cX5_takes 2 = .ok (.putfield 33, 3) := by decide +kernel
theorem dX5_takes_5 : decode cX5_takes 5 = .ok (.aload_n 0, 1) := by decide +kernel
theorem dX5_takes_6 : decode cX5_takes 6 = .ok (.iload_n 2, 1) := by decide +kernel
theorem dX5_takes_7 : decode cX5_takes 7 = .ok (.putfield 37, 3) := by decide +kernel
theorem dX5_takes_10 : decode cX5_takes 10 = .ok (.aload_n 0, 1) := by decide +kernel
theorem dX5_takes_11 : decode cX5_takes 11 = .ok (.iload_n 3, 1) := by decide +kernel
theorem dX5_takes_12 : decode cX5_takes 12 = .ok (.putfield 40, 3) := by decide +kernel
theorem dX5_takes_15 : decode cX5_takes 15 = .ok (.aload_n 0, 1) := by decide +kernel
theorem dX5_takes_16 : decode cX5_takes 16 = .ok (.iload 4, 2) := by decide +kernel
theorem dX5_takes_18 : decode cX5_takes 18 = .ok (.putfield 43, 3) := by decide +kernel
theorem dX5_takes_21 : decode cX5_takes 21 = .ok (.aload_n 0, 1) := by decide +kernel
theorem dX5_takes_22 : decode cX5_takes 22 = .ok (.getfield 29, 3) := by decide +kernel
theorem dX5_takes_25 : decode cX5_takes 25 = .ok (.iload_n 1, 1) := by decide +kernel
theorem dX5_takes_26 : decode cX5_takes 26 = .ok (.invokevirtual 46, 3) := by decide +kernel
theorem dX5_takes_29 : decode cX5_takes 29 = .ok (.ifCond .eq 42, 3) := by decide +kernel
theorem dX5_takes_32 : decode cX5_takes 32 = .ok (.iload_n 2, 1) := by decide +kernel
theorem dX5_takes_33 : decode cX5_takes 33 = .ok (.iconst 1, 1) := by decide +kernel
theorem dX5_takes_34 : decode cX5_takes 34 = .ok (.if_icmp .lt 37, 3) := by decide +kernel
theorem dX5_takes_37 : decode cX5_takes 37 = .ok (.iload_n 2, 1) := by decide +kernel
theorem dX5_takes_38 : decode cX5_takes 38 = .ok (.bipush 9, 2) := by decide +kernel
theorem dX5_takes_40 : decode cX5_takes 40 = .ok (.if_icmp .gt 31, 3) := by decide +kernel
theorem dX5_takes_43 : decode cX5_takes 43 = .ok (.iload_n 3, 1) := by decide +kernel
theorem dX5_takes_44 : decode cX5_takes 44 = .ok (.iconst 1, 1) := by decide +kernel
theorem dX5_takes_45 : decode cX5_takes 45 = .ok (.if_icmp .lt 26, 3) := by decide +kernel
theorem dX5_takes_48 : decode cX5_takes 48 = .ok (.iload_n 3, 1) := by decide +kernel
theorem dX5_takes_49 : decode cX5_takes 49 = .ok (.bipush 20, 2) := by decide +kernel
theorem dX5_takes_51 : decode cX5_takes 51 = .ok (.if_icmp .gt 20, 3) := by decide +kernel
theorem dX5_takes_54 : decode cX5_takes 54 = .ok (.iload 4, 2) := by decide +kernel
theorem dX5_takes_56 : decode cX5_takes 56 = .ok (.iconst 1, 1) := by decide +kernel
theorem dX5_takes_57 : decode cX5_takes 57 = .ok (.if_icmp .lt 14, 3) := by decide +kernel
theorem dX5_takes_60 : decode cX5_takes 60 = .ok (.iload 4, 2) := by decide +kernel
theorem dX5_takes_62 : decode cX5_takes 62 = .ok (.bipush 12, 2) := by decide +kernel
theorem dX5_takes_64 : decode cX5_takes 64 = .ok (.if_icmp .gt 7, 3) := by decide +kernel
theorem dX5_takes_67 : decode cX5_takes 67 = .ok (.iconst 1, 1) := by decide +kernel
theorem dX5_takes_68 : decode cX5_takes 68 = .ok (.goto 4, 3) := by decide +kernel
theorem dX5_takes_71 : decode cX5_takes 71 = .ok (.iconst 0, 1) := by decide +kernel
theorem dX5_takes_72 : decode cX5_takes 72 = .ok (.ireturn, 1) := by decide +kernel
set_option maxRecDepth 20000 in
theorem ggX5_takes_X7_hasRing : GoodIn wsX5_takes wsX7_hasRing := goodIn_r _ [10, 11, 32, 33, 34, 35] rfl (by decide +kernel)
set_option maxRecDepth 20000 in
theorem gX5_takes_X7_hasRing : GoodIn wsX5_takes (wsV RX5 46 RX7 yX7_hasRing wsX7_hasRing) := goodIn_app (goodIn_of _ (by decide +kernel)) ggX5_takes_X7_hasRing
set_option maxHeartbeats 4000000 in
set_option maxRecDepth 100000 in
theorem S_X5_takes (l : Launch) (D : va_G) (K : Nat → ClassId) (a : Nat → Nat) (G : gS) (p0 : Int32) (s0 : Int) (p1 : Int32) (s1 : Int) (p2 : Int32) (s2 : Int) (p3 : Int32) (s3 : Int) (e0 : p0.toInt = s0) (e1 : p1.toInt = s1) (e2 : p2.toInt = s2) (e3 : p3.toInt = s3) (hI : xI G) (sz : Nat) : Ki l yX5_takes wsX5_takes 2 61 0 0 D [.ref (a 6), .int p0, .int p1, .int p2, .int p3] (xW K a G) (tK K) sz (fun (r : Int32) (G' : gS) => (xI G') ∧ (gu_un xcd [602, 603, 604, 605] G G') ∧ ((r = 1 ∧ (0 ≤ s0 ∧ s0 < (G 18 1).toInt ∧ 1 ≤ s1 ∧ s1 ≤ 9 ∧ 1 ≤ s2 ∧ s2 ≤ 20 ∧ 1 ≤ s3 ∧ s3 ≤ 12)) ∨ (r = 0 ∧ ¬ (0 ≤ s0 ∧ s0 < (G 18 1).toInt ∧ 1 ≤ s1 ∧ s1 ≤ 9 ∧ 1 ≤ s2 ∧ s2 ≤ 20 ∧ 1 ≤ s3 ∧ s3 ≤ 12))) ∧ (((G' 6 1).toInt = s0 ∧ (G' 6 2).toInt = s1 ∧ (G' 6 3).toInt = s2 ∧ (G' 6 4).toInt = s3))) (fun (G' : gS) => (xW K a G')) (fun _ => (tK K)) := by
  unfold Ki
  refine g_ofW (cc := cX5_takes) (lv := [(0, .ref (a 6)), (1, .int p0), (2, .int p1), (3, .int p2), (4, .int p3)]) (by decide) rfl (Nat.le_of_ble_eq_true rfl) rfl ?_
  intro p e s m args below meth c A Q hA hQ F hr hnm
  have hts := F.2.2.2.2.1
  have w_0 : (Cond.fieldLink RX5 33 "QuietCut$Lathe" "ring" "I").before args s = true := hts _ (List.mem_of_getElem? (i := 1) rfl)
  have i_X5 : ∀ w ∈ u_ws RX5 TX5 20, w ∈ wsX5_takes := fun _ h => List.mem_cons_of_mem _ (List.mem_append_left _ (List.mem_append_right _ h))
  have w_1 : (Cond.fieldLink RX5 37 "QuietCut$Lathe" "speed" "I").before args s = true := hts _ (List.mem_of_getElem? (i := 2) rfl)
  have w_2 : (Cond.fieldLink RX5 40 "QuietCut$Lathe" "feed" "I").before args s = true := hts _ (List.mem_of_getElem? (i := 3) rfl)
  have w_3 : (Cond.fieldLink RX5 43 "QuietCut$Lathe" "turns" "I").before args s = true := hts _ (List.mem_of_getElem? (i := 4) rfl)
  have w_4 : (Cond.fieldLink RX5 29 "QuietCut$Lathe" "shop" "LQuietCut$Shop;").before args s = true := hts _ (List.mem_of_getElem? (i := 5) rfl)
  have rg0 : -2147483648 ≤ s0 ∧ s0 ≤ 2147483647 := e0 ▸ ti_rng p0
  have rg1 : -2147483648 ≤ s1 ∧ s1 ≤ 2147483647 := e1 ▸ ti_rng p1
  have rg2 : -2147483648 ≤ s2 ∧ s2 ≤ 2147483647 := e2 ▸ ti_rng p2
  have rg3 : -2147483648 ≤ s3 ∧ s3 ≤ 2147483647 := e3 ▸ ti_rng p3
  have b1 : (1 : Int) ≤ (G 18 1).toInt ∧ (G 18 1).toInt ≤ 6 := hI 18 1
  refine g_aload_n F 0 dX5_takes_0 rfl rfl ?_
  refine g_iload_n F 1 dX5_takes_1 rfl rfl ?_
  refine xp_6_1 F i_X5 w_0 dX5_takes_2 ?_
  refine g_aload_n F 0 dX5_takes_5 rfl rfl ?_
  refine g_iload_n F 2 dX5_takes_6 rfl rfl ?_
  refine xp_6_2 F i_X5 w_1 dX5_takes_7 ?_
  refine g_aload_n F 0 dX5_takes_10 rfl rfl ?_
  refine g_iload_n F 3 dX5_takes_11 rfl rfl ?_
  refine xp_6_3 F i_X5 w_2 dX5_takes_12 ?_
  refine g_aload_n F 0 dX5_takes_15 rfl rfl ?_
  refine g_iload F 4 dX5_takes_16 rfl ?_
  refine xp_6_4 F i_X5 w_3 dX5_takes_18 ?_
  refine g_aload_n F 0 dX5_takes_21 rfl rfl ?_
  refine xg_6_0 F i_X5 w_4 dX5_takes_22 ?_
  refine g_iload_n F 1 dX5_takes_25 rfl rfl ?_
  refine u_callVi (k := 0) (n := 0) (b := a 2) (As := [.int p0]) (st := []) F (fun sz => S_X7_hasRing_2 l D K a (gu_up (gu_up (gu_up (gu_up G 6 1 p0) 6 2 p1) 6 3 p2) 6 4 p3) p0 s0 e0 (gu_I.up (j := 6) (k := 4) (v := p3) (gu_I.up (j := 6) (k := 3) (v := p2) (gu_I.up (j := 6) (k := 2) (v := p1) (gu_I.up (j := 6) (k := 1) (v := p0) hI (ti_rng _).1 (ti_rng _).2) (ti_rng _).1 (ti_rng _).2) (ti_rng _).1 (ti_rng _).2) (ti_rng _).1 (ti_rng _).2) sz) (cwV 1 hts gX5_takes_X7_hasRing rfl rfl rfl (by decide +kernel) ⟨Nat.le_of_ble_eq_true rfl, Nat.le_of_ble_eq_true rfl⟩) rfl 2 xc_2 rfl (Nat.le_of_ble_eq_true rfl) ⟨Nat.zero_le _, Nat.zero_le _⟩ dX5_takes_26 (fun r2 _ hw3 => ?_)
  rcases hw3 with ⟨rfl, q5⟩ | ⟨rfl, q6⟩
  · have q5 : (0 ≤ s0 ∧ s0 < (G 18 1).toInt) := q5
    refine v_if_eq F 71 dX5_takes_29 (by decide) 1 rfl (fun c7 => absurd c7 (by decide)) (fun c7 => ?_)
    refine g_iload_n F 2 dX5_takes_32 rfl rfl ?_
    refine g_iconst F 1 dX5_takes_33 (by decide) ?_
    refine v_icmp_lt F 71 dX5_takes_34 (by decide) s1 1 e1 rfl (fun c8 => ?_) (fun c8 => ?_)
    · refine g_iconst F 0 dX5_takes_71 (by decide) ?_
      exact u_zret F hA hQ hr rfl (gu_up (gu_up (gu_up (gu_up G 6 1 p0) 6 2 p1) 6 3 p2) 6 4 p3) (⟨(gu_I.up (j := 6) (k := 4) (v := p3) (gu_I.up (j := 6) (k := 3) (v := p2) (gu_I.up (j := 6) (k := 2) (v := p1) (gu_I.up (j := 6) (k := 1) (v := p0) hI (ti_rng _).1 (ti_rng _).2) (ti_rng _).1 (ti_rng _).2) (ti_rng _).1 (ti_rng _).2) (ti_rng _).1 (ti_rng _).2), (gu_un.up (j := 6) (k := 4) (v := p3) (gu_un.up (j := 6) (k := 3) (v := p2) (gu_un.up (j := 6) (k := 2) (v := p1) (gu_un.up (j := 6) (k := 1) (v := p0) gu_un.rf (show (602 : Nat) ∈ ([602, 603, 604, 605] : List Nat) by decide)) (show (603 : Nat) ∈ ([602, 603, 604, 605] : List Nat) by decide)) (show (604 : Nat) ∈ ([602, 603, 604, 605] : List Nat) by decide)) (show (605 : Nat) ∈ ([602, 603, 604, 605] : List Nat) by decide)), (Or.inr (⟨rfl, by first | trivial | omega⟩)), (by show (((gu_up (gu_up (gu_up (gu_up G 6 1 p0) 6 2 p1) 6 3 p2) 6 4 p3) 6 1).toInt = s0 ∧ ((gu_up (gu_up (gu_up (gu_up G 6 1 p0) 6 2 p1) 6 3 p2) 6 4 p3) 6 2).toInt = s1 ∧ ((gu_up (gu_up (gu_up (gu_up G 6 1 p0) 6 2 p1) 6 3 p2) 6 4 p3) 6 3).toInt = s2 ∧ ((gu_up (gu_up (gu_up (gu_up G 6 1 p0) 6 2 p1) 6 3 p2) 6 4 p3) 6 4).toInt = s3); have e9_6_1 : (gu_up (gu_up (gu_up (gu_up G 6 1 p0) 6 2 p1) 6 3 p2) 6 4 p3) 6 1 = p0 := rfl; have e9_6_2 : (gu_up (gu_up (gu_up (gu_up G 6 1 p0) 6 2 p1) 6 3 p2) 6 4 p3) 6 2 = p1 := rfl; have e9_6_3 : (gu_up (gu_up (gu_up (gu_up G 6 1 p0) 6 2 p1) 6 3 p2) 6 4 p3) 6 3 = p2 := rfl; have e9_6_4 : (gu_up (gu_up (gu_up (gu_up G 6 1 p0) 6 2 p1) 6 3 p2) 6 4 p3) 6 4 = p3 := rfl; (try simp only [e9_6_1, e9_6_2, e9_6_3, e9_6_4, true_and, and_true]) <;> (first | omega | (simp only [Int32.reduceToInt, true_and, and_true, ne_eq, not_true_eq_false, false_and, or_false, false_or, true_or, or_true, false_implies] <;> omega)))⟩) rfl rfl dX5_takes_72
    · refine g_iload_n F 2 dX5_takes_37 rfl rfl ?_
      refine g_bipush F 9 dX5_takes_38 (by decide) ?_
      refine v_icmp_gt F 71 dX5_takes_40 (by decide) s1 9 e1 rfl (fun c9 => ?_) (fun c9 => ?_)
      · refine g_iconst F 0 dX5_takes_71 (by decide) ?_
        exact u_zret F hA hQ hr rfl (gu_up (gu_up (gu_up (gu_up G 6 1 p0) 6 2 p1) 6 3 p2) 6 4 p3) (⟨(gu_I.up (j := 6) (k := 4) (v := p3) (gu_I.up (j := 6) (k := 3) (v := p2) (gu_I.up (j := 6) (k := 2) (v := p1) (gu_I.up (j := 6) (k := 1) (v := p0) hI (ti_rng _).1 (ti_rng _).2) (ti_rng _).1 (ti_rng _).2) (ti_rng _).1 (ti_rng _).2) (ti_rng _).1 (ti_rng _).2), (gu_un.up (j := 6) (k := 4) (v := p3) (gu_un.up (j := 6) (k := 3) (v := p2) (gu_un.up (j := 6) (k := 2) (v := p1) (gu_un.up (j := 6) (k := 1) (v := p0) gu_un.rf (show (602 : Nat) ∈ ([602, 603, 604, 605] : List Nat) by decide)) (show (603 : Nat) ∈ ([602, 603, 604, 605] : List Nat) by decide)) (show (604 : Nat) ∈ ([602, 603, 604, 605] : List Nat) by decide)) (show (605 : Nat) ∈ ([602, 603, 604, 605] : List Nat) by decide)), (Or.inr (⟨rfl, by first | trivial | omega⟩)), (by show (((gu_up (gu_up (gu_up (gu_up G 6 1 p0) 6 2 p1) 6 3 p2) 6 4 p3) 6 1).toInt = s0 ∧ ((gu_up (gu_up (gu_up (gu_up G 6 1 p0) 6 2 p1) 6 3 p2) 6 4 p3) 6 2).toInt = s1 ∧ ((gu_up (gu_up (gu_up (gu_up G 6 1 p0) 6 2 p1) 6 3 p2) 6 4 p3) 6 3).toInt = s2 ∧ ((gu_up (gu_up (gu_up (gu_up G 6 1 p0) 6 2 p1) 6 3 p2) 6 4 p3) 6 4).toInt = s3); have e9_6_1 : (gu_up (gu_up (gu_up (gu_up G 6 1 p0) 6 2 p1) 6 3 p2) 6 4 p3) 6 1 = p0 := rfl; have e9_6_2 : (gu_up (gu_up (gu_up (gu_up G 6 1 p0) 6 2 p1) 6 3 p2) 6 4 p3) 6 2 = p1 := rfl; have e9_6_3 : (gu_up (gu_up (gu_up (gu_up G 6 1 p0) 6 2 p1) 6 3 p2) 6 4 p3) 6 3 = p2 := rfl; have e9_6_4 : (gu_up (gu_up (gu_up (gu_up G 6 1 p0) 6 2 p1) 6 3 p2) 6 4 p3) 6 4 = p3 := rfl; (try simp only [e9_6_1, e9_6_2, e9_6_3, e9_6_4, true_and, and_true]) <;> (first | omega | (simp only [Int32.reduceToInt, true_and, and_true, ne_eq, not_true_eq_false, false_and, or_false, false_or, true_or, or_true, false_implies] <;> omega)))⟩) rfl rfl dX5_takes_72
      · refine g_iload_n F 3 dX5_takes_43 rfl rfl ?_
        refine g_iconst F 1 dX5_takes_44 (by decide) ?_
        refine v_icmp_lt F 71 dX5_takes_45 (by decide) s2 1 e2 rfl (fun c10 => ?_) (fun c10 => ?_)
        · refine g_iconst F 0 dX5_takes_71 (by decide) ?_
          exact u_zret F hA hQ hr rfl (gu_up (gu_up (gu_up (gu_up G 6 1 p0) 6 2 p1) 6 3 p2) 6 4 p3) (⟨(gu_I.up (j := 6) (k := 4) (v := p3) (gu_I.up (j := 6) (k := 3) (v := p2) (gu_I.up (j := 6) (k := 2) (v := p1) (gu_I.up (j := 6) (k := 1) (v := p0) hI (ti_rng _).1 (ti_rng _).2) (ti_rng _).1 (ti_rng _).2) (ti_rng _).1 (ti_rng _).2) (ti_rng _).1 (ti_rng _).2), (gu_un.up (j := 6) (k := 4) (v := p3) (gu_un.up (j := 6) (k := 3) (v := p2) (gu_un.up (j := 6) (k := 2) (v := p1) (gu_un.up (j := 6) (k := 1) (v := p0) gu_un.rf (show (602 : Nat) ∈ ([602, 603, 604, 605] : List Nat) by decide)) (show (603 : Nat) ∈ ([602, 603, 604, 605] : List Nat) by decide)) (show (604 : Nat) ∈ ([602, 603, 604, 605] : List Nat) by decide)) (show (605 : Nat) ∈ ([602, 603, 604, 605] : List Nat) by decide)), (Or.inr (⟨rfl, by first | trivial | omega⟩)), (by show (((gu_up (gu_up (gu_up (gu_up G 6 1 p0) 6 2 p1) 6 3 p2) 6 4 p3) 6 1).toInt = s0 ∧ ((gu_up (gu_up (gu_up (gu_up G 6 1 p0) 6 2 p1) 6 3 p2) 6 4 p3) 6 2).toInt = s1 ∧ ((gu_up (gu_up (gu_up (gu_up G 6 1 p0) 6 2 p1) 6 3 p2) 6 4 p3) 6 3).toInt = s2 ∧ ((gu_up (gu_up (gu_up (gu_up G 6 1 p0) 6 2 p1) 6 3 p2) 6 4 p3) 6 4).toInt = s3); have e9_6_1 : (gu_up (gu_up (gu_up (gu_up G 6 1 p0) 6 2 p1) 6 3 p2) 6 4 p3) 6 1 = p0 := rfl; have e9_6_2 : (gu_up (gu_up (gu_up (gu_up G 6 1 p0) 6 2 p1) 6 3 p2) 6 4 p3) 6 2 = p1 := rfl; have e9_6_3 : (gu_up (gu_up (gu_up (gu_up G 6 1 p0) 6 2 p1) 6 3 p2) 6 4 p3) 6 3 = p2 := rfl; have e9_6_4 : (gu_up (gu_up (gu_up (gu_up G 6 1 p0) 6 2 p1) 6 3 p2) 6 4 p3) 6 4 = p3 := rfl; (try simp only [e9_6_1, e9_6_2, e9_6_3, e9_6_4, true_and, and_true]) <;> (first | omega | (simp only [Int32.reduceToInt, true_and, and_true, ne_eq, not_true_eq_false, false_and, or_false, false_or, true_or, or_true, false_implies] <;> omega)))⟩) rfl rfl dX5_takes_72
        · refine g_iload_n F 3 dX5_takes_48 rfl rfl ?_
          refine g_bipush F 20 dX5_takes_49 (by decide) ?_
          refine v_icmp_gt F 71 dX5_takes_51 (by decide) s2 20 e2 rfl (fun c11 => ?_) (fun c11 => ?_)
          · refine g_iconst F 0 dX5_takes_71 (by decide) ?_
            exact u_zret F hA hQ hr rfl (gu_up (gu_up (gu_up (gu_up G 6 1 p0) 6 2 p1) 6 3 p2) 6 4 p3) (⟨(gu_I.up (j := 6) (k := 4) (v := p3) (gu_I.up (j := 6) (k := 3) (v := p2) (gu_I.up (j := 6) (k := 2) (v := p1) (gu_I.up (j := 6) (k := 1) (v := p0) hI (ti_rng _).1 (ti_rng _).2) (ti_rng _).1 (ti_rng _).2) (ti_rng _).1 (ti_rng _).2) (ti_rng _).1 (ti_rng _).2), (gu_un.up (j := 6) (k := 4) (v := p3) (gu_un.up (j := 6) (k := 3) (v := p2) (gu_un.up (j := 6) (k := 2) (v := p1) (gu_un.up (j := 6) (k := 1) (v := p0) gu_un.rf (show (602 : Nat) ∈ ([602, 603, 604, 605] : List Nat) by decide)) (show (603 : Nat) ∈ ([602, 603, 604, 605] : List Nat) by decide)) (show (604 : Nat) ∈ ([602, 603, 604, 605] : List Nat) by decide)) (show (605 : Nat) ∈ ([602, 603, 604, 605] : List Nat) by decide)), (Or.inr (⟨rfl, by first | trivial | omega⟩)), (by show (((gu_up (gu_up (gu_up (gu_up G 6 1 p0) 6 2 p1) 6 3 p2) 6 4 p3) 6 1).toInt = s0 ∧ ((gu_up (gu_up (gu_up (gu_up G 6 1 p0) 6 2 p1) 6 3 p2) 6 4 p3) 6 2).toInt = s1 ∧ ((gu_up (gu_up (gu_up (gu_up G 6 1 p0) 6 2 p1) 6 3 p2) 6 4 p3) 6 3).toInt = s2 ∧ ((gu_up (gu_up (gu_up (gu_up G 6 1 p0) 6 2 p1) 6 3 p2) 6 4 p3) 6 4).toInt = s3); have e9_6_1 : (gu_up (gu_up (gu_up (gu_up G 6 1 p0) 6 2 p1) 6 3 p2) 6 4 p3) 6 1 = p0 := rfl; have e9_6_2 : (gu_up (gu_up (gu_up (gu_up G 6 1 p0) 6 2 p1) 6 3 p2) 6 4 p3) 6 2 = p1 := rfl; have e9_6_3 : (gu_up (gu_up (gu_up (gu_up G 6 1 p0) 6 2 p1) 6 3 p2) 6 4 p3) 6 3 = p2 := rfl; have e9_6_4 : (gu_up (gu_up (gu_up (gu_up G 6 1 p0) 6 2 p1) 6 3 p2) 6 4 p3) 6 4 = p3 := rfl; (try simp only [e9_6_1, e9_6_2, e9_6_3, e9_6_4, true_and, and_true]) <;> (first | omega | (simp only [Int32.reduceToInt, true_and, and_true, ne_eq, not_true_eq_false, false_and, or_false, false_or, true_or, or_true, false_implies] <;> omega)))⟩) rfl rfl dX5_takes_72
          · refine g_iload F 4 dX5_takes_54 rfl ?_
            refine g_iconst F 1 dX5_takes_56 (by decide) ?_
            refine v_icmp_lt F 71 dX5_takes_57 (by decide) s3 1 e3 rfl (fun c12 => ?_) (fun c12 => ?_)
            · refine g_iconst F 0 dX5_takes_71 (by decide) ?_
              exact u_zret F hA hQ hr rfl (gu_up (gu_up (gu_up (gu_up G 6 1 p0) 6 2 p1) 6 3 p2) 6 4 p3) (⟨(gu_I.up (j := 6) (k := 4) (v := p3) (gu_I.up (j := 6) (k := 3) (v := p2) (gu_I.up (j := 6) (k := 2) (v := p1) (gu_I.up (j := 6) (k := 1) (v := p0) hI (ti_rng _).1 (ti_rng _).2) (ti_rng _).1 (ti_rng _).2) (ti_rng _).1 (ti_rng _).2) (ti_rng _).1 (ti_rng _).2), (gu_un.up (j := 6) (k := 4) (v := p3) (gu_un.up (j := 6) (k := 3) (v := p2) (gu_un.up (j := 6) (k := 2) (v := p1) (gu_un.up (j := 6) (k := 1) (v := p0) gu_un.rf (show (602 : Nat) ∈ ([602, 603, 604, 605] : List Nat) by decide)) (show (603 : Nat) ∈ ([602, 603, 604, 605] : List Nat) by decide)) (show (604 : Nat) ∈ ([602, 603, 604, 605] : List Nat) by decide)) (show (605 : Nat) ∈ ([602, 603, 604, 605] : List Nat) by decide)), (Or.inr (⟨rfl, by first | trivial | omega⟩)), (by show (((gu_up (gu_up (gu_up (gu_up G 6 1 p0) 6 2 p1) 6 3 p2) 6 4 p3) 6 1).toInt = s0 ∧ ((gu_up (gu_up (gu_up (gu_up G 6 1 p0) 6 2 p1) 6 3 p2) 6 4 p3) 6 2).toInt = s1 ∧ ((gu_up (gu_up (gu_up (gu_up G 6 1 p0) 6 2 p1) 6 3 p2) 6 4 p3) 6 3).toInt = s2 ∧ ((gu_up (gu_up (gu_up (gu_up G 6 1 p0) 6 2 p1) 6 3 p2) 6 4 p3) 6 4).toInt = s3); have e9_6_1 : (gu_up (gu_up (gu_up (gu_up G 6 1 p0) 6 2 p1) 6 3 p2) 6 4 p3) 6 1 = p0 := rfl; have e9_6_2 : (gu_up (gu_up (gu_up (gu_up G 6 1 p0) 6 2 p1) 6 3 p2) 6 4 p3) 6 2 = p1 := rfl; have e9_6_3 : (gu_up (gu_up (gu_up (gu_up G 6 1 p0) 6 2 p1) 6 3 p2) 6 4 p3) 6 3 = p2 := rfl; have e9_6_4 : (gu_up (gu_up (gu_up (gu_up G 6 1 p0) 6 2 p1) 6 3 p2) 6 4 p3) 6 4 = p3 := rfl; (try simp only [e9_6_1, e9_6_2, e9_6_3, e9_6_4, true_and, and_true]) <;> (first | omega | (simp only [Int32.reduceToInt, true_and, and_true, ne_eq, not_true_eq_false, false_and, or_false, false_or, true_or, or_true, false_implies] <;> omega)))⟩) rfl rfl dX5_takes_72
            · refine g_iload F 4 dX5_takes_60 rfl ?_
              refine g_bipush F 12 dX5_takes_62 (by decide) ?_
              refine v_icmp_gt F 71 dX5_takes_64 (by decide) s3 12 e3 rfl (fun c13 => ?_) (fun c13 => ?_)
              · refine g_iconst F 0 dX5_takes_71 (by decide) ?_
                exact u_zret F hA hQ hr rfl (gu_up (gu_up (gu_up (gu_up G 6 1 p0) 6 2 p1) 6 3 p2) 6 4 p3) (⟨(gu_I.up (j := 6) (k := 4) (v := p3) (gu_I.up (j := 6) (k := 3) (v := p2) (gu_I.up (j := 6) (k := 2) (v := p1) (gu_I.up (j := 6) (k := 1) (v := p0) hI (ti_rng _).1 (ti_rng _).2) (ti_rng _).1 (ti_rng _).2) (ti_rng _).1 (ti_rng _).2) (ti_rng _).1 (ti_rng _).2), (gu_un.up (j := 6) (k := 4) (v := p3) (gu_un.up (j := 6) (k := 3) (v := p2) (gu_un.up (j := 6) (k := 2) (v := p1) (gu_un.up (j := 6) (k := 1) (v := p0) gu_un.rf (show (602 : Nat) ∈ ([602, 603, 604, 605] : List Nat) by decide)) (show (603 : Nat) ∈ ([602, 603, 604, 605] : List Nat) by decide)) (show (604 : Nat) ∈ ([602, 603, 604, 605] : List Nat) by decide)) (show (605 : Nat) ∈ ([602, 603, 604, 605] : List Nat) by decide)), (Or.inr (⟨rfl, by first | trivial | omega⟩)), (by show (((gu_up (gu_up (gu_up (gu_up G 6 1 p0) 6 2 p1) 6 3 p2) 6 4 p3) 6 1).toInt = s0 ∧ ((gu_up (gu_up (gu_up (gu_up G 6 1 p0) 6 2 p1) 6 3 p2) 6 4 p3) 6 2).toInt = s1 ∧ ((gu_up (gu_up (gu_up (gu_up G 6 1 p0) 6 2 p1) 6 3 p2) 6 4 p3) 6 3).toInt = s2 ∧ ((gu_up (gu_up (gu_up (gu_up G 6 1 p0) 6 2 p1) 6 3 p2) 6 4 p3) 6 4).toInt = s3); have e9_6_1 : (gu_up (gu_up (gu_up (gu_up G 6 1 p0) 6 2 p1) 6 3 p2) 6 4 p3) 6 1 = p0 := rfl; have e9_6_2 : (gu_up (gu_up (gu_up (gu_up G 6 1 p0) 6 2 p1) 6 3 p2) 6 4 p3) 6 2 = p1 := rfl; have e9_6_3 : (gu_up (gu_up (gu_up (gu_up G 6 1 p0) 6 2 p1) 6 3 p2) 6 4 p3) 6 3 = p2 := rfl; have e9_6_4 : (gu_up (gu_up (gu_up (gu_up G 6 1 p0) 6 2 p1) 6 3 p2) 6 4 p3) 6 4 = p3 := rfl; (try simp only [e9_6_1, e9_6_2, e9_6_3, e9_6_4, true_and, and_true]) <;> (first | omega | (simp only [Int32.reduceToInt, true_and, and_true, ne_eq, not_true_eq_false, false_and, or_false, false_or, true_or, or_true, false_implies] <;> omega)))⟩) rfl rfl dX5_takes_72
              · refine g_iconst F 1 dX5_takes_67 (by decide) ?_
                refine g_goto F 72 dX5_takes_68 (by decide) ?_
                exact u_zret F hA hQ hr rfl (gu_up (gu_up (gu_up (gu_up G 6 1 p0) 6 2 p1) 6 3 p2) 6 4 p3) (⟨(gu_I.up (j := 6) (k := 4) (v := p3) (gu_I.up (j := 6) (k := 3) (v := p2) (gu_I.up (j := 6) (k := 2) (v := p1) (gu_I.up (j := 6) (k := 1) (v := p0) hI (ti_rng _).1 (ti_rng _).2) (ti_rng _).1 (ti_rng _).2) (ti_rng _).1 (ti_rng _).2) (ti_rng _).1 (ti_rng _).2), (gu_un.up (j := 6) (k := 4) (v := p3) (gu_un.up (j := 6) (k := 3) (v := p2) (gu_un.up (j := 6) (k := 2) (v := p1) (gu_un.up (j := 6) (k := 1) (v := p0) gu_un.rf (show (602 : Nat) ∈ ([602, 603, 604, 605] : List Nat) by decide)) (show (603 : Nat) ∈ ([602, 603, 604, 605] : List Nat) by decide)) (show (604 : Nat) ∈ ([602, 603, 604, 605] : List Nat) by decide)) (show (605 : Nat) ∈ ([602, 603, 604, 605] : List Nat) by decide)), (Or.inl (⟨rfl, by first | trivial | omega⟩)), (by show (((gu_up (gu_up (gu_up (gu_up G 6 1 p0) 6 2 p1) 6 3 p2) 6 4 p3) 6 1).toInt = s0 ∧ ((gu_up (gu_up (gu_up (gu_up G 6 1 p0) 6 2 p1) 6 3 p2) 6 4 p3) 6 2).toInt = s1 ∧ ((gu_up (gu_up (gu_up (gu_up G 6 1 p0) 6 2 p1) 6 3 p2) 6 4 p3) 6 3).toInt = s2 ∧ ((gu_up (gu_up (gu_up (gu_up G 6 1 p0) 6 2 p1) 6 3 p2) 6 4 p3) 6 4).toInt = s3); have e9_6_1 : (gu_up (gu_up (gu_up (gu_up G 6 1 p0) 6 2 p1) 6 3 p2) 6 4 p3) 6 1 = p0 := rfl; have e9_6_2 : (gu_up (gu_up (gu_up (gu_up G 6 1 p0) 6 2 p1) 6 3 p2) 6 4 p3) 6 2 = p1 := rfl; have e9_6_3 : (gu_up (gu_up (gu_up (gu_up G 6 1 p0) 6 2 p1) 6 3 p2) 6 4 p3) 6 3 = p2 := rfl; have e9_6_4 : (gu_up (gu_up (gu_up (gu_up G 6 1 p0) 6 2 p1) 6 3 p2) 6 4 p3) 6 4 = p3 := rfl; (try simp only [e9_6_1, e9_6_2, e9_6_3, e9_6_4, true_and, and_true]) <;> (first | omega | (simp only [Int32.reduceToInt, true_and, and_true, ne_eq, not_true_eq_false, false_and, or_false, false_or, true_or, or_true, false_implies] <;> omega)))⟩) rfl rfl dX5_takes_72
  · have q6 : (s0 < 0 ∨ (G 18 1).toInt ≤ s0) := q6
    refine v_if_eq F 71 dX5_takes_29 (by decide) 0 rfl (fun c14 => ?_) (fun c14 => absurd c14 (by decide))
    refine g_iconst F 0 dX5_takes_71 (by decide) ?_
    exact u_zret F hA hQ hr rfl (gu_up (gu_up (gu_up (gu_up G 6 1 p0) 6 2 p1) 6 3 p2) 6 4 p3) (⟨(gu_I.up (j := 6) (k := 4) (v := p3) (gu_I.up (j := 6) (k := 3) (v := p2) (gu_I.up (j := 6) (k := 2) (v := p1) (gu_I.up (j := 6) (k := 1) (v := p0) hI (ti_rng _).1 (ti_rng _).2) (ti_rng _).1 (ti_rng _).2) (ti_rng _).1 (ti_rng _).2) (ti_rng _).1 (ti_rng _).2), (gu_un.up (j := 6) (k := 4) (v := p3) (gu_un.up (j := 6) (k := 3) (v := p2) (gu_un.up (j := 6) (k := 2) (v := p1) (gu_un.up (j := 6) (k := 1) (v := p0) gu_un.rf (show (602 : Nat) ∈ ([602, 603, 604, 605] : List Nat) by decide)) (show (603 : Nat) ∈ ([602, 603, 604, 605] : List Nat) by decide)) (show (604 : Nat) ∈ ([602, 603, 604, 605] : List Nat) by decide)) (show (605 : Nat) ∈ ([602, 603, 604, 605] : List Nat) by decide)), (Or.inr (⟨rfl, by first | trivial | omega⟩)), (by show (((gu_up (gu_up (gu_up (gu_up G 6 1 p0) 6 2 p1) 6 3 p2) 6 4 p3) 6 1).toInt = s0 ∧ ((gu_up (gu_up (gu_up (gu_up G 6 1 p0) 6 2 p1) 6 3 p2) 6 4 p3) 6 2).toInt = s1 ∧ ((gu_up (gu_up (gu_up (gu_up G 6 1 p0) 6 2 p1) 6 3 p2) 6 4 p3) 6 3).toInt = s2 ∧ ((gu_up (gu_up (gu_up (gu_up G 6 1 p0) 6 2 p1) 6 3 p2) 6 4 p3) 6 4).toInt = s3); have e9_6_1 : (gu_up (gu_up (gu_up (gu_up G 6 1 p0) 6 2 p1) 6 3 p2) 6 4 p3) 6 1 = p0 := rfl; have e9_6_2 : (gu_up (gu_up (gu_up (gu_up G 6 1 p0) 6 2 p1) 6 3 p2) 6 4 p3) 6 2 = p1 := rfl; have e9_6_3 : (gu_up (gu_up (gu_up (gu_up G 6 1 p0) 6 2 p1) 6 3 p2) 6 4 p3) 6 3 = p2 := rfl; have e9_6_4 : (gu_up (gu_up (gu_up (gu_up G 6 1 p0) 6 2 p1) 6 3 p2) 6 4 p3) 6 4 = p3 := rfl; (try simp only [e9_6_1, e9_6_2, e9_6_3, e9_6_4, true_and, and_true]) <;> (first | omega | (simp only [Int32.reduceToInt, true_and, and_true, ne_eq, not_true_eq_false, false_and, or_false, false_or, true_or, or_true, false_implies] <;> omega)))⟩) rfl rfl dX5_takes_72

theorem dX5_useTeeth_0 : decode cX5_useTeeth 0 = .ok (.aload_n 0, 1) := by decide +kernel
theorem dX5_useTeeth_1 : decode cX5_useTeeth 1 = .ok (.iload_n 1, 1) := by decide +kernel
theorem dX5_useTeeth_2 : decode cX5_useTeeth 2 = .ok (.putfield 50, 3) := by decide +kernel
theorem dX5_useTeeth_5 : decode cX5_useTeeth 5 = .ok (.return_, 1) := by decide +kernel
set_option maxHeartbeats 4000000 in
set_option maxRecDepth 100000 in
theorem S_X5_useTeeth (l : Launch) (D : va_G) (K : Nat → ClassId) (a : Nat → Nat) (G : gS) (p0 : Int32) (s0 : Int) (e0 : p0.toInt = s0) (hI : xI G) (sz : Nat) : Kv l yX5_useTeeth wsX5_useTeeth 1 40 0 0 D [.ref (a 6), .int p0] (xW K a G) (tK K) sz (fun (G' : gS) => (xI G') ∧ (gu_un xcd [607] G G') ∧ (((G' 6 6).toInt = s0))) (fun (G' : gS) => (xW K a G')) (fun _ => (tK K)) := by
  unfold Kv
  refine g_ofW (cc := cX5_useTeeth) (lv := [(0, .ref (a 6)), (1, .int p0)]) (by decide) rfl (Nat.le_of_ble_eq_true rfl) rfl ?_
  intro p e s m args below meth c A Q hA hQ F hr hnm
  have hts := F.2.2.2.2.1
  have w_0 : (Cond.fieldLink RX5 50 "QuietCut$Lathe" "teethSet" "I").before args s = true := hts _ (List.mem_of_getElem? (i := 1) rfl)
  have i_X5 : ∀ w ∈ u_ws RX5 TX5 20, w ∈ wsX5_useTeeth := fun _ h => List.mem_cons_of_mem _ (List.mem_append_right _ h)
  have rg0 : -2147483648 ≤ s0 ∧ s0 ≤ 2147483647 := e0 ▸ ti_rng p0
  refine g_aload_n F 0 dX5_useTeeth_0 rfl rfl ?_
  refine g_iload_n F 1 dX5_useTeeth_1 rfl rfl ?_
  refine xp_6_6 F i_X5 w_0 dX5_useTeeth_2 ?_
  exact u_vret F hA hQ hr (gu_up G 6 6 p0) (⟨(gu_I.up (j := 6) (k := 6) (v := p0) hI (ti_rng _).1 (ti_rng _).2), (gu_un.up (j := 6) (k := 6) (v := p0) gu_un.rf (show (607 : Nat) ∈ ([607] : List Nat) by decide)), (by show (((gu_up G 6 6 p0) 6 6).toInt = s0); have e9_6_6 : (gu_up G 6 6 p0) 6 6 = p0 := rfl; (try simp only [e9_6_6, true_and, and_true]) <;> (first | omega | (simp only [Int32.reduceToInt, true_and, and_true, ne_eq, not_true_eq_false, false_and, or_false, false_or, true_or, or_true, false_implies] <;> omega)))⟩) rfl rfl dX5_useTeeth_5

theorem dX5_mountTeeth_0 : decode cX5_mountTeeth 0 = .ok (.aload_n 0, 1) := by decide +kernel
theorem dX5_mountTeeth_1 : decode cX5_mountTeeth 1 = .ok (.iconst 0, 1) := by decide +kernel
theorem dX5_mountTeeth_2 : decode cX5_mountTeeth 2 = .ok (.putfield 53, 3) := by decide +kernel
theorem dX5_mountTeeth_5 : decode cX5_mountTeeth 5 = .ok (.aload_n 0, 1) := by decide +kernel
theorem dX5_mountTeeth_6 : decode cX5_mountTeeth 6 = .ok (.getfield 50, 3) := by decide +kernel
theorem dX5_mountTeeth_9 : decode cX5_mountTeeth 9 = .ok (.ifCond .ne 59, 3) := by decide +kernel
theorem dX5_mountTeeth_12 : decode cX5_mountTeeth 12 = .ok (.iconst 0, 1) := by decide +kernel
theorem dX5_mountTeeth_13 : decode cX5_mountTeeth 13 = .ok (.istore_n 1, 1) := by decide +kernel
theorem dX5_mountTeeth_14 : decode cX5_mountTeeth 14 = .ok (.iload_n 1, 1) := by decide +kernel
theorem dX5_mountTeeth_15 : decode cX5_mountTeeth 15 = .ok (.aload_n 0, 1) := by decide +kernel
theorem dX5_mountTeeth_16 : decode cX5_mountTeeth 16 = .ok (.getfield 29, 3) := by decide +kernel
theorem dX5_mountTeeth_19 : decode cX5_mountTeeth 19 = .ok (.getfield 56, 3) := by decide +kernel
theorem dX5_mountTeeth_22 : decode cX5_mountTeeth 22 = .ok (.bipush 10, 2) := by decide +kernel
theorem dX5_mountTeeth_24 : decode cX5_mountTeeth 24 = .ok (.iaload, 1) := by decide +kernel
theorem dX5_mountTeeth_25 : decode cX5_mountTeeth 25 = .ok (.if_icmp .ge 42, 3) := by decide +kernel
theorem dX5_mountTeeth_28 : decode cX5_mountTeeth 28 = .ok (.iload_n 1, 1) := by decide +kernel
theorem dX5_mountTeeth_29 : decode cX5_mountTeeth 29 = .ok (.iconst 4, 1) := by decide +kernel
theorem dX5_mountTeeth_30 : decode cX5_mountTeeth 30 = .ok (.if_icmp .ge 37, 3) := by decide +kernel
theorem dX5_mountTeeth_33 : decode cX5_mountTeeth 33 = .ok (.aload_n 0, 1) := by decide +kernel
theorem dX5_mountTeeth_34 : decode cX5_mountTeeth 34 = .ok (.getfield 11, 3) := by decide +kernel
theorem dX5_mountTeeth_37 : decode cX5_mountTeeth 37 = .ok (.iload_n 1, 1) := by decide +kernel
theorem dX5_mountTeeth_38 : decode cX5_mountTeeth 38 = .ok (.aload_n 0, 1) := by decide +kernel
theorem dX5_mountTeeth_39 : decode cX5_mountTeeth 39 = .ok (.getfield 29, 3) := by decide +kernel
theorem dX5_mountTeeth_42 : decode cX5_mountTeeth 42 = .ok (.getfield 56, 3) := by decide +kernel
theorem dX5_mountTeeth_45 : decode cX5_mountTeeth 45 = .ok (.bipush 20, 2) := by decide +kernel
theorem dX5_mountTeeth_47 : decode cX5_mountTeeth 47 = .ok (.iload_n 1, 1) := by decide +kernel
theorem dX5_mountTeeth_48 : decode cX5_mountTeeth 48 = .ok (.iadd, 1) := by decide +kernel
theorem dX5_mountTeeth_49 : decode cX5_mountTeeth 49 = .ok (.iaload, 1) := by decide +kernel
theorem dX5_mountTeeth_50 : decode cX5_mountTeeth 50 = .ok (.iastore, 1) := by decide +kernel
theorem dX5_mountTeeth_51 : decode cX5_mountTeeth 51 = .ok (.aload_n 0, 1) := by decide +kernel
theorem dX5_mountTeeth_52 : decode cX5_mountTeeth 52 = .ok (.dup, 1) := by decide +kernel
theorem dX5_mountTeeth_53 : decode cX5_mountTeeth 53 = .ok (.getfield 53, 3) := by decide +kernel
theorem dX5_mountTeeth_56 : decode cX5_mountTeeth 56 = .ok (.iconst 1, 1) := by decide +kernel
theorem dX5_mountTeeth_57 : decode cX5_mountTeeth 57 = .ok (.iadd, 1) := by decide +kernel
theorem dX5_mountTeeth_58 : decode cX5_mountTeeth 58 = .ok (.putfield 53, 3) := by decide +kernel
theorem dX5_mountTeeth_61 : decode cX5_mountTeeth 61 = .ok (.iinc 1 1, 3) := by decide +kernel
theorem dX5_mountTeeth_64 : decode cX5_mountTeeth 64 = .ok (.goto (-50), 3) := by decide +kernel
theorem dX5_mountTeeth_67 : decode cX5_mountTeeth 67 = .ok (.return_, 1) := by decide +kernel
theorem dX5_mountTeeth_68 : decode cX5_mountTeeth 68 = .ok (.iconst 0, 1) := by decide +kernel
theorem dX5_mountTeeth_69 : decode cX5_mountTeeth 69 = .ok (.istore_n 1, 1) := by decide +kernel
theorem dX5_mountTeeth_70 : decode cX5_mountTeeth 70 = .ok (.iload_n 1, 1) := by decide +kernel
theorem dX5_mountTeeth_71 : decode cX5_mountTeeth 71 = .ok (.bipush 16, 2) := by decide +kernel
theorem dX5_mountTeeth_73 : decode cX5_mountTeeth 73 = .ok (.if_icmp .ge 48, 3) := by decide +kernel
theorem dX5_mountTeeth_76 : decode cX5_mountTeeth 76 = .ok (.aload_n 0, 1) := by decide +kernel
theorem dX5_mountTeeth_77 : decode cX5_mountTeeth 77 = .ok (.getfield 53, 3) := by decide +kernel
theorem dX5_mountTeeth_80 : decode cX5_mountTeeth 80 = .ok (.iconst 4, 1) := by decide +kernel
theorem dX5_mountTeeth_81 : decode cX5_mountTeeth 81 = .ok (.if_icmp .ge 40, 3) := by decide +kernel
theorem dX5_mountTeeth_84 : decode cX5_mountTeeth 84 = .ok (.aload_n 0, 1) := by decide +kernel
theorem dX5_mountTeeth_85 : decode cX5_mountTeeth 85 = .ok (.getfield 50, 3) := by decide +kernel
theorem dX5_mountTeeth_88 : decode cX5_mountTeeth 88 = .ok (.iload_n 1, 1) := by decide +kernel
theorem dX5_mountTeeth_89 : decode cX5_mountTeeth 89 = .ok (.ishr, 1) := by decide +kernel
theorem dX5_mountTeeth_90 : decode cX5_mountTeeth 90 = .ok (.iconst 1, 1) := by decide +kernel
theorem dX5_mountTeeth_91 : decode cX5_mountTeeth 91 = .ok (.iand, 1) := by decide +kernel
theorem dX5_mountTeeth_92 : decode cX5_mountTeeth 92 = .ok (.ifCond .eq 23, 3) := by decide +kernel
theorem dX5_mountTeeth_95 : decode cX5_mountTeeth 95 = .ok (.aload_n 0, 1) := by decide +kernel
theorem dX5_mountTeeth_96 : decode cX5_mountTeeth 96 = .ok (.getfield 11, 3) := by decide +kernel
theorem dX5_mountTeeth_99 : decode cX5_mountTeeth 99 = .ok (.aload_n 0, 1) := by decide +kernel
theorem dX5_mountTeeth_100 : decode cX5_mountTeeth 100 = .ok (.getfield 53, 3) := by decide +kernel
theorem dX5_mountTeeth_103 : decode cX5_mountTeeth 103 = .ok (.iload_n 1, 1) := by decide +kernel
theorem dX5_mountTeeth_104 : decode cX5_mountTeeth 104 = .ok (.iastore, 1) := by decide +kernel
theorem dX5_mountTeeth_105 : decode cX5_mountTeeth 105 = .ok (.aload_n 0, 1) := by decide +kernel
theorem dX5_mountTeeth_106 : decode cX5_mountTeeth 106 = .ok (.dup, 1) := by decide +kernel
theorem dX5_mountTeeth_107 : decode cX5_mountTeeth 107 = .ok (.getfield 53, 3) := by decide +kernel
theorem dX5_mountTeeth_110 : decode cX5_mountTeeth 110 = .ok (.iconst 1, 1) := by decide +kernel
theorem dX5_mountTeeth_111 : decode cX5_mountTeeth 111 = .ok (.iadd, 1) := by decide +kernel
theorem dX5_mountTeeth_112 : decode cX5_mountTeeth 112 = .ok (.putfield 53, 3) := by decide +kernel
theorem dX5_mountTeeth_115 : decode cX5_mountTeeth 115 = .ok (.iinc 1 1, 3) := by decide +kernel
theorem dX5_mountTeeth_118 : decode cX5_mountTeeth 118 = .ok (.goto (-48), 3) := by decide +kernel
theorem dX5_mountTeeth_121 : decode cX5_mountTeeth 121 = .ok (.return_, 1) := by decide +kernel
set_option maxHeartbeats 4000000 in
set_option maxRecDepth 100000 in
theorem S_X5_mountTeeth (l : Launch) (D : va_G) (K : Nat → ClassId) (a : Nat → Nat) (G : gS) (hI : xI G) (sz : Nat) : Kv l yX5_mountTeeth wsX5_mountTeeth 1 40 0 0 D [.ref (a 6)] (xW K a G) (tK K) sz (fun (G' : gS) => (xI G') ∧ (gu_un xcd [608, 4400] G G') ∧ (xMt G G')) (fun (G' : gS) => (xW K a G')) (fun _ => (tK K)) := by
  unfold Kv
  refine g_ofW (cc := cX5_mountTeeth) (lv := [(0, .ref (a 6))]) (by decide) rfl (Nat.le_of_ble_eq_true rfl) rfl ?_
  intro p e s m args below meth c A Q hA hQ F hr hnm
  have hts := F.2.2.2.2.1
  have w_0 : (Cond.fieldLink RX5 53 "QuietCut$Lathe" "teethMany" "I").before args s = true := hts _ (List.mem_of_getElem? (i := 1) rfl)
  have i_X5 : ∀ w ∈ u_ws RX5 TX5 20, w ∈ wsX5_mountTeeth := fun _ h => List.mem_cons_of_mem _ (List.mem_append_left _ (List.mem_append_right _ h))
  have w_1 : (Cond.fieldLink RX5 50 "QuietCut$Lathe" "teethSet" "I").before args s = true := hts _ (List.mem_of_getElem? (i := 2) rfl)
  have w_2 : (Cond.fieldLink RX5 11 "QuietCut$Lathe" "teeth" "[I").before args s = true := hts _ (List.mem_of_getElem? (i := 5) rfl)
  have w_3 : (Cond.fieldLink RX5 29 "QuietCut$Lathe" "shop" "LQuietCut$Shop;").before args s = true := hts _ (List.mem_of_getElem? (i := 3) rfl)
  have w_4 : (Cond.fieldLink RX5 56 "QuietCut$Shop" "numbers" "[I").before args s = true := hts _ (List.mem_of_getElem? (i := 4) rfl)
  have i_X7 : ∀ w ∈ u_ws RX7 TX7 4, w ∈ wsX5_mountTeeth := fun _ h => List.mem_cons_of_mem _ (List.mem_append_right _ h)
  have b1 : (1 : Int) ≤ (G 18 10).toInt ∧ (G 18 10).toInt ≤ 4 := hI 18 10
  have J_70 : ∀ (fuel : Nat) (x70_1 : Int32) (Gj70 : gS), (2147483647 - x70_1.toInt).toNat < fuel → (0 ≤ x70_1.toInt ∧ x70_1.toInt ≤ 16) → (xI Gj70) → (gu_un xcd [608, 4400] G Gj70) → (xTok G → mS (G 6 6).toInt.toNat x70_1.toInt (Gj70 6 7).toInt (Gj70 44)) → (((G 6 6).toInt ≠ 0)) → gG p l e (gR 1 0 0 40) s m args below meth c D A 2 Q 0 0 (xW K a Gj70) (tK K) [(0, .ref (a 6)), (1, .int x70_1)] 70 [] := by
    intro fuel
    induction fuel with
    | zero => intro x70_1 Gj70 hm; exact absurd hm (Nat.not_lt_zero _)
    | succ fuel_70 ih_70 =>
      intro x70_1 Gj70 hm_70 h70_1 jI70 jU70 ms nz
      refine g_iload_n F 1 dX5_mountTeeth_70 rfl rfl ?_
      refine g_bipush F 16 dX5_mountTeeth_71 (by decide) ?_
      refine v_icmp_ge F 121 dX5_mountTeeth_73 (by decide) x70_1.toInt 16 rfl rfl (fun c2 => ?_) (fun c2 => ?_)
      · exact u_vret F hA hQ hr Gj70 (⟨jI70, (gu_un.tr gu_un.rf (gu_un.su jU70 rfl)), (xMt_1 nz (fun hk => mS.fin (ms hk) (by omega) (by omega) (by omega) (xTok.le hk nz).2))⟩) rfl rfl dX5_mountTeeth_121
      · refine g_aload_n F 0 dX5_mountTeeth_76 rfl rfl ?_
        refine xg_6_7 F i_X5 w_0 dX5_mountTeeth_77 (Gj70 6 7) (rfl) ?_
        refine g_iconst F 4 dX5_mountTeeth_80 (by decide) ?_
        have b3 : (0 : Int) ≤ (Gj70 6 7).toInt ∧ (Gj70 6 7).toInt ≤ 4 := jI70 6 7
        refine v_icmp_ge F 121 dX5_mountTeeth_81 (by decide) (Gj70 6 7).toInt 4 rfl rfl (fun c4 => ?_) (fun c4 => ?_)
        · exact u_vret F hA hQ hr Gj70 (⟨jI70, (gu_un.tr gu_un.rf (gu_un.su jU70 rfl)), (xMt_1 nz (fun hk => mS.fin (ms hk) (by omega) (by omega) (by omega) (xTok.le hk nz).2))⟩) rfl rfl dX5_mountTeeth_121
        · refine g_aload_n F 0 dX5_mountTeeth_84 rfl rfl ?_
          refine xg_6_6 F i_X5 w_1 dX5_mountTeeth_85 (G 6 6) (jU70 6 6 (by decide)) ?_
          refine g_iload_n F 1 dX5_mountTeeth_88 rfl rfl ?_
          refine g_ishr F dX5_mountTeeth_89 ?_
          refine g_iconst F 1 dX5_mountTeeth_90 (by decide) ?_
          refine g_iand F dX5_mountTeeth_91 ?_
          refine v_if_eq F 115 dX5_mountTeeth_92 (by decide) ((((G 6 6) >>> (x70_1 &&& 31)) &&& 1) : Int32).toInt rfl (fun c5 => ?_) (fun c5 => ?_)
          · refine u_iinc F (fun v_ => [(1, .int v_), (0, .ref (a 6))]) dX5_mountTeeth_115 (j := 1) rfl x70_1.toInt 1 rfl rfl (by omega) (by omega) (by decide) (fun _ => rfl) (fun y6 ey6 => ?_)
            refine g_goto F 70 dX5_mountTeeth_118 (by decide) ?_
            refine g_locals [(0, .ref (a 6)), (1, .int y6)] [1, 0] rfl ?_
            exact ih_70 y6 Gj70 (by omega) (by have h9 := ti_rng y6; omega) jI70 (gu_un.tr gu_un.rf (gu_un.su jU70 rfl)) (fun hk => by have hb := bi_bit (x := G 6 6) (k := x70_1) (xTok.le hk nz).1 (by omega) (by omega); exact mS.no (ms hk) (by omega) (by omega) (by omega)) (by have e9_6_6 : Gj70 6 6 = (G 6 6) := jU70 6 6 (by decide); (try simp only [e9_6_6, true_and, and_true]) <;> (first | omega | (simp only [Int32.reduceToInt, true_and, and_true, ne_eq, not_true_eq_false, false_and, or_false, false_or, true_or, or_true, false_implies] <;> omega)))
          · refine g_aload_n F 0 dX5_mountTeeth_95 rfl rfl ?_
            refine xg_6_5 F i_X5 w_2 dX5_mountTeeth_96 ?_
            refine g_aload_n F 0 dX5_mountTeeth_99 rfl rfl ?_
            refine xg_6_7 F i_X5 w_0 dX5_mountTeeth_100 (Gj70 6 7) (rfl) ?_
            refine g_iload_n F 1 dX5_mountTeeth_103 rfl rfl ?_
            refine u_iast F 44 0 xc_44 rfl (Gj70 6 7).toInt rfl (by omega) (by omega) (xW K a (gu_up Gj70 44 ((Gj70 6 7).toInt).toNat x70_1)) (xs_44 _) dX5_mountTeeth_104 ?_
            refine g_aload_n F 0 dX5_mountTeeth_105 rfl rfl ?_
            refine g_dup F dX5_mountTeeth_106 rfl ?_
            refine xg_6_7 F i_X5 w_0 dX5_mountTeeth_107 (Gj70 6 7) (rfl) ?_
            refine g_iconst F 1 dX5_mountTeeth_110 (by decide) ?_
            refine u_iadd F dX5_mountTeeth_111 (Gj70 6 7).toInt 1 rfl rfl (by omega) (by omega) (fun y7 ey7 => ?_)
            refine xp_6_7 F i_X5 w_0 dX5_mountTeeth_112 ?_
            refine u_iinc F (fun v_ => [(1, .int v_), (0, .ref (a 6))]) dX5_mountTeeth_115 (j := 1) rfl x70_1.toInt 1 rfl rfl (by omega) (by omega) (by decide) (fun _ => rfl) (fun y8 ey8 => ?_)
            refine g_goto F 70 dX5_mountTeeth_118 (by decide) ?_
            refine g_locals [(0, .ref (a 6)), (1, .int y8)] [1, 0] rfl ?_
            exact ih_70 y8 (gu_up (gu_up Gj70 44 ((Gj70 6 7).toInt).toNat x70_1) 6 7 y7) (by omega) (by have h9 := ti_rng y8; omega) (gu_I.up (j := 6) (k := 7) (v := y7) (gu_I.up (j := 44) (k := ((Gj70 6 7).toInt).toNat) (v := x70_1) jI70 (show (0 : Int) ≤ Int32.toInt x70_1 by omega) (show Int32.toInt x70_1 ≤ 15 by omega)) (show (0 : Int) ≤ Int32.toInt y7 by omega) (show Int32.toInt y7 ≤ 4 by omega)) (gu_un.up (j := 6) (k := 7) (v := y7) (gu_un.up (j := 44) (k := ((Gj70 6 7).toInt).toNat) (v := x70_1) (gu_un.tr gu_un.rf (gu_un.su jU70 rfl)) (show (4400 : Nat) ∈ ([608, 4400] : List Nat) by decide)) (show (608 : Nat) ∈ ([608, 4400] : List Nat) by decide)) (fun hk => by have hb := bi_bit (x := G 6 6) (k := x70_1) (xTok.le hk nz).1 (by omega) (by omega); exact mS.yes (v := x70_1) (ms hk) (by omega) (by omega) (by omega) (by omega) (by have e9_6_7 : (gu_up (gu_up Gj70 44 ((Gj70 6 7).toInt).toNat x70_1) 6 7 y7) 6 7 = y7 := rfl; (try simp only [e9_6_7, true_and, and_true]) <;> omega) rfl (show (gu_up (gu_up Gj70 44 ((Gj70 6 7).toInt).toNat x70_1) 6 7 y7) 44 = (upd (Gj70 44) ((Gj70 6 7).toInt).toNat x70_1) from rfl)) (by have e9_6_6 : (gu_up (gu_up Gj70 44 ((Gj70 6 7).toInt).toNat x70_1) 6 7 y7) 6 6 = (G 6 6) := jU70 6 6 (by decide); (try simp only [e9_6_6, true_and, and_true]) <;> (first | omega | (simp only [Int32.reduceToInt, true_and, and_true, ne_eq, not_true_eq_false, false_and, or_false, false_or, true_or, or_true, false_implies] <;> omega)))
  have J_14 : ∀ (fuel : Nat) (x14_1 : Int32) (Gj14 : gS), (2147483647 - x14_1.toInt).toNat < fuel → (0 ≤ x14_1.toInt ∧ x14_1.toInt ≤ 4) → (xI Gj14) → (gu_un xcd [608, 4400] G Gj14) → (((∀ q : Nat, (q : Int) < x14_1.toInt → Gj14 44 q = G 18 (20 + q)) ∧ (Gj14 6 7).toInt = x14_1.toInt)) → ((x14_1.toInt ≤ (G 18 10).toInt)) → (((G 6 6).toInt = 0)) → gG p l e (gR 1 0 0 40) s m args below meth c D A 2 Q 0 0 (xW K a Gj14) (tK K) [(0, .ref (a 6)), (1, .int x14_1)] 14 [] := by
    intro fuel
    induction fuel with
    | zero => intro x14_1 Gj14 hm; exact absurd hm (Nat.not_lt_zero _)
    | succ fuel_14 ih_14 =>
      intro x14_1 Gj14 hm_14 h14_1 jI14 jU14 mt ml z6
      refine g_iload_n F 1 dX5_mountTeeth_14 rfl rfl ?_
      refine g_aload_n F 0 dX5_mountTeeth_15 rfl rfl ?_
      refine xg_6_0 F i_X5 w_3 dX5_mountTeeth_16 ?_
      refine xg_2_0 F i_X7 w_4 dX5_mountTeeth_19 ?_
      refine g_bipush F 10 dX5_mountTeeth_22 (by decide) ?_
      refine u1_iald F 18 0 xc_18 rfl 10 rfl (by decide) (by decide) dX5_mountTeeth_24 (G 18 10) (jU14 18 10 (by decide)) ?_
      refine v_icmp_ge F 67 dX5_mountTeeth_25 (by decide) x14_1.toInt (G 18 10).toInt rfl rfl (fun c9 => ?_) (fun c9 => ?_)
      · exact u_vret F hA hQ hr Gj14 (⟨jI14, (gu_un.tr gu_un.rf (gu_un.su jU14 rfl)), (xMt_0 z6 (by have h8 := mt.2; omega) (fun q hq => mt.1 q (by omega)))⟩) rfl rfl dX5_mountTeeth_67
      · refine g_iload_n F 1 dX5_mountTeeth_28 rfl rfl ?_
        refine g_iconst F 4 dX5_mountTeeth_29 (by decide) ?_
        refine v_icmp_ge F 67 dX5_mountTeeth_30 (by decide) x14_1.toInt 4 rfl rfl (fun c10 => absurd c10 (by omega)) (fun c10 => ?_)
        refine g_aload_n F 0 dX5_mountTeeth_33 rfl rfl ?_
        refine xg_6_5 F i_X5 w_2 dX5_mountTeeth_34 ?_
        refine g_iload_n F 1 dX5_mountTeeth_37 rfl rfl ?_
        refine g_aload_n F 0 dX5_mountTeeth_38 rfl rfl ?_
        refine xg_6_0 F i_X5 w_3 dX5_mountTeeth_39 ?_
        refine xg_2_0 F i_X7 w_4 dX5_mountTeeth_42 ?_
        refine g_bipush F 20 dX5_mountTeeth_45 (by decide) ?_
        refine g_iload_n F 1 dX5_mountTeeth_47 rfl rfl ?_
        refine u_iadd F dX5_mountTeeth_48 20 x14_1.toInt rfl rfl (by omega) (by omega) (fun y11 ey11 => ?_)
        refine u1_iald F 18 0 xc_18 rfl y11.toInt rfl (by omega) (by omega) dX5_mountTeeth_49 ((G 18) ((20 + x14_1.toInt)).toNat) (by rw [show y11.toInt = (20 + x14_1.toInt) by omega]; exact congrFun ((show Gj14 18 = G 18 from funext fun k_ => jU14 18 k_ (show (1800 : Nat) ∉ ([608, 4400] : List Nat) by decide))) _) ?_
        have tb9 : (0 : Int) ≤ ((G 18) ((20 + x14_1.toInt)).toNat).toInt ∧ ((G 18) ((20 + x14_1.toInt)).toNat).toInt ≤ 15 := by rcases (show x14_1.toInt = 0 ∨ x14_1.toInt = 1 ∨ x14_1.toInt = 2 ∨ x14_1.toInt = 3 by omega) with h9 | h9 | h9 | h9 <;> (rw [h9]; first | exact hI 18 20 | exact hI 18 21 | exact hI 18 22 | exact hI 18 23)
        refine u_iast F 44 0 xc_44 rfl x14_1.toInt rfl (by omega) (by omega) (xW K a (gu_up Gj14 44 (x14_1.toInt).toNat ((G 18) ((20 + x14_1.toInt)).toNat))) (xs_44 _) dX5_mountTeeth_50 ?_
        refine g_aload_n F 0 dX5_mountTeeth_51 rfl rfl ?_
        refine g_dup F dX5_mountTeeth_52 rfl ?_
        refine xg_6_7 F i_X5 w_0 dX5_mountTeeth_53 (Gj14 6 7) (rfl) ?_
        refine g_iconst F 1 dX5_mountTeeth_56 (by decide) ?_
        have b13 : (0 : Int) ≤ (Gj14 6 7).toInt ∧ (Gj14 6 7).toInt ≤ 4 := jI14 6 7
        refine u_iadd F dX5_mountTeeth_57 (Gj14 6 7).toInt 1 rfl rfl (by omega) (by omega) (fun y12 ey12 => ?_)
        refine xp_6_7 F i_X5 w_0 dX5_mountTeeth_58 ?_
        refine u_iinc F (fun v_ => [(1, .int v_), (0, .ref (a 6))]) dX5_mountTeeth_61 (j := 1) rfl x14_1.toInt 1 rfl rfl (by omega) (by omega) (by decide) (fun _ => rfl) (fun y14 ey14 => ?_)
        refine g_goto F 14 dX5_mountTeeth_64 (by decide) ?_
        refine g_locals [(0, .ref (a 6)), (1, .int y14)] [1, 0] rfl ?_
        exact ih_14 y14 (gu_up (gu_up Gj14 44 (x14_1.toInt).toNat ((G 18) ((20 + x14_1.toInt)).toNat)) 6 7 y12) (by omega) (by have h9 := ti_rng y14; omega) (gu_I.up (j := 6) (k := 7) (v := y12) (gu_I.up (j := 44) (k := (x14_1.toInt).toNat) (v := ((G 18) ((20 + x14_1.toInt)).toNat)) jI14 (show (0 : Int) ≤ Int32.toInt ((G 18) ((20 + x14_1.toInt)).toNat) by omega) (show Int32.toInt ((G 18) ((20 + x14_1.toInt)).toNat) ≤ 15 by omega)) (show (0 : Int) ≤ Int32.toInt y12 by omega) (show Int32.toInt y12 ≤ 4 by omega)) (gu_un.up (j := 6) (k := 7) (v := y12) (gu_un.up (j := 44) (k := (x14_1.toInt).toNat) (v := ((G 18) ((20 + x14_1.toInt)).toNat)) (gu_un.tr gu_un.rf (gu_un.su jU14 rfl)) (show (4400 : Nat) ∈ ([608, 4400] : List Nat) by decide)) (show (608 : Nat) ∈ ([608, 4400] : List Nat) by decide)) (⟨by rw [(show (gu_up (gu_up Gj14 44 (x14_1.toInt).toNat ((G 18) ((20 + x14_1.toInt)).toNat)) 6 7 y12) 44 = (upd (Gj14 44) (x14_1.toInt).toNat ((G 18) ((20 + x14_1.toInt)).toNat)) from rfl)]; exact teeth_1 (by omega) mt.1 rfl (by omega), by have e9_6_7 : (gu_up (gu_up Gj14 44 (x14_1.toInt).toNat ((G 18) ((20 + x14_1.toInt)).toNat)) 6 7 y12) 6 7 = y12 := rfl; (try simp only [e9_6_7, true_and, and_true]) <;> omega⟩) (by have e9_18_10 : (gu_up (gu_up Gj14 44 (x14_1.toInt).toNat ((G 18) ((20 + x14_1.toInt)).toNat)) 6 7 y12) 18 10 = (G 18 10) := jU14 18 10 (by decide); (try simp only [e9_18_10, true_and, and_true]) <;> (first | omega | (simp only [Int32.reduceToInt, true_and, and_true, ne_eq, not_true_eq_false, false_and, or_false, false_or, true_or, or_true, false_implies] <;> omega))) (by have e9_6_6 : (gu_up (gu_up Gj14 44 (x14_1.toInt).toNat ((G 18) ((20 + x14_1.toInt)).toNat)) 6 7 y12) 6 6 = (G 6 6) := jU14 6 6 (by decide); (try simp only [e9_6_6, true_and, and_true]) <;> (first | omega | (simp only [Int32.reduceToInt, true_and, and_true, ne_eq, not_true_eq_false, false_and, or_false, false_or, true_or, or_true, false_implies] <;> omega)))
  refine g_aload_n F 0 dX5_mountTeeth_0 rfl rfl ?_
  refine g_iconst F 0 dX5_mountTeeth_1 (by decide) ?_
  refine xp_6_7 F i_X5 w_0 dX5_mountTeeth_2 ?_
  refine g_aload_n F 0 dX5_mountTeeth_5 rfl rfl ?_
  refine xg_6_6 F i_X5 w_1 dX5_mountTeeth_6 (G 6 6) (rfl) ?_
  refine v_if_ne F 68 dX5_mountTeeth_9 (by decide) (G 6 6).toInt rfl (fun c15 => ?_) (fun c15 => ?_)
  · refine g_iconst F 0 dX5_mountTeeth_68 (by decide) ?_
    refine g_istore_n F [(1, .int 0), (0, .ref (a 6))] dX5_mountTeeth_69 rfl (by decide) rfl ?_
    refine g_locals [(0, .ref (a 6)), (1, .int 0)] [1, 0] rfl ?_
    exact J_70 _ 0 (gu_up G 6 7 0) (Nat.lt_succ_self _) (by decide) (gu_I.up (j := 6) (k := 7) (v := 0) hI (show (0 : Int) ≤ (0 : Int32).toInt by decide) (show (0 : Int32).toInt ≤ 4 by decide)) (gu_un.up (j := 6) (k := 7) (v := 0) gu_un.rf (show (608 : Nat) ∈ ([608, 4400] : List Nat) by decide)) (fun hk => mS.at0 rfl rfl) (by have e9_6_6 : (gu_up G 6 7 0) 6 6 = (G 6 6) := rfl; (try simp only [e9_6_6, true_and, and_true]) <;> (first | omega | (simp only [Int32.reduceToInt, true_and, and_true, ne_eq, not_true_eq_false, false_and, or_false, false_or, true_or, or_true, false_implies] <;> omega)))
  · refine g_iconst F 0 dX5_mountTeeth_12 (by decide) ?_
    refine g_istore_n F [(1, .int 0), (0, .ref (a 6))] dX5_mountTeeth_13 rfl (by decide) rfl ?_
    refine g_locals [(0, .ref (a 6)), (1, .int 0)] [1, 0] rfl ?_
    exact J_14 _ 0 (gu_up G 6 7 0) (Nat.lt_succ_self _) (by decide) (gu_I.up (j := 6) (k := 7) (v := 0) hI (show (0 : Int) ≤ (0 : Int32).toInt by decide) (show (0 : Int32).toInt ≤ 4 by decide)) (gu_un.up (j := 6) (k := 7) (v := 0) gu_un.rf (show (608 : Nat) ∈ ([608, 4400] : List Nat) by decide)) (⟨fun q hq => by have h9 : (q : Int) < 0 := hq; omega, rfl⟩) (by have e9_18_10 : (gu_up G 6 7 0) 18 10 = (G 18 10) := rfl; (try simp only [e9_18_10, true_and, and_true]) <;> (first | omega | (simp only [Int32.reduceToInt, true_and, and_true, ne_eq, not_true_eq_false, false_and, or_false, false_or, true_or, or_true, false_implies] <;> omega))) (by have e9_6_6 : (gu_up G 6 7 0) 6 6 = (G 6 6) := rfl; (try simp only [e9_6_6, true_and, and_true]) <;> (first | omega | (simp only [Int32.reduceToInt, true_and, and_true, ne_eq, not_true_eq_false, false_and, or_false, false_or, true_or, or_true, false_implies] <;> omega)))


set_option maxHeartbeats 4000000 in
set_option maxRecDepth 100000 in
theorem S_J7_fill_53178_46 (l : Launch) (D : va_G) (K : Nat → ClassId) (a : Nat → Nat) (G : gS) (p1 : Int32) (s1 : Int) (e1 : p1.toInt = s1) (hI : xI G) (sz : Nat) : Kv l yJ7_fill_53178 wsJ7_fill_53178 1 40 0 0 D [.ref (a 46), .int p1] (xW K a G) (tK K) sz (fun (G' : gS) => (xI G') ∧ (gu_un xcd [4600] G G') ∧ ((∀ q : Nat, q < 16 → G' 46 q = p1))) (fun (G' : gS) => (xW K a G')) (fun _ => (tK K)) := by
  unfold Kv
  refine g_ofW (cc := cJ7_fill_53178) (lv := [(0, .ref (a 46)), (1, .int p1)]) (by decide +kernel) rfl (Nat.le_of_ble_eq_true rfl) rfl ?_
  intro p e s m args below meth c A Q hA hQ F hr hnm
  have hts := F.2.2.2.2.1
  have rg1 : -2147483648 ≤ s1 ∧ s1 ≤ 2147483647 := e1 ▸ ti_rng p1
  have J_5 : ∀ (fuel : Nat) (x5_2 : Int32) (Gj5 : gS), (2147483647 - x5_2.toInt).toNat < fuel → (0 ≤ x5_2.toInt ∧ x5_2.toInt ≤ 16) → (xI Gj5) → (gu_un xcd [4600] G Gj5) → (∀ q : Nat, (q : Int) < x5_2.toInt → Gj5 46 q = p1) → gG p l e (gR 1 0 0 40) s m args below meth c D A 4 Q 0 0 (xW K a Gj5) (tK K) [(0, .ref (a 46)), (1, .int p1), (2, .int x5_2), (3, .int 16)] 5 [] := by
    intro fuel
    induction fuel with
    | zero => intro x5_2 Gj5 hm; exact absurd hm (Nat.not_lt_zero _)
    | succ fuel_5 ih_5 =>
      intro x5_2 Gj5 hm_5 h5_2 jI5 jU5 fz
      refine g_iload_n F 2 dJ7_fill_53178_5 rfl rfl ?_
      refine g_iload_n F 3 dJ7_fill_53178_6 rfl rfl ?_
      refine v_icmp_ge F 20 dJ7_fill_53178_7 (by decide) x5_2.toInt 16 rfl rfl (fun c1 => ?_) (fun c1 => ?_)
      · exact u_vret F hA hQ hr Gj5 (⟨jI5, (gu_un.tr gu_un.rf (gu_un.su jU5 rfl)), (fun q hq => fz q (by omega))⟩) rfl rfl dJ7_fill_53178_20
      · refine g_aload_n F 0 dJ7_fill_53178_10 rfl rfl ?_
        refine g_iload_n F 2 dJ7_fill_53178_11 rfl rfl ?_
        refine g_iload_n F 1 dJ7_fill_53178_12 rfl rfl ?_
        refine u_iast F 46 0 xc_46 rfl x5_2.toInt rfl (by omega) (by omega) (xW K a (gu_up Gj5 46 (x5_2.toInt).toNat p1)) (xs_46 _) dJ7_fill_53178_13 ?_
        refine u_iinc F (fun v_ => [(2, .int v_), (0, .ref (a 46)), (1, .int p1), (3, .int 16)]) dJ7_fill_53178_14 (j := 2) rfl x5_2.toInt 1 rfl rfl (by omega) (by omega) (by decide) (fun _ => rfl) (fun y2 ey2 => ?_)
        refine g_goto F 5 dJ7_fill_53178_17 (by decide) ?_
        refine g_locals [(0, .ref (a 46)), (1, .int p1), (2, .int y2), (3, .int 16)] [1, 2, 0, 3] rfl ?_
        exact ih_5 y2 (gu_up Gj5 46 (x5_2.toInt).toNat p1) (by omega) (by have h9 := ti_rng y2; omega) (gu_I.up (j := 46) (k := (x5_2.toInt).toNat) (v := p1) jI5 (ti_rng _).1 (ti_rng _).2) (gu_un.up (j := 46) (k := (x5_2.toInt).toNat) (v := p1) (gu_un.tr gu_un.rf (gu_un.su jU5 rfl)) (show (4600 : Nat) ∈ ([4600] : List Nat) by decide)) (pfill_1 (by omega) (by omega) fz)
  refine g_iconst F 0 dJ7_fill_53178_0 (by decide) ?_
  refine g_istore_n F [(2, .int 0), (0, .ref (a 46)), (1, .int p1)] dJ7_fill_53178_1 rfl (by decide) rfl ?_
  refine g_aload_n F 1 dJ7_fill_53178_2 rfl rfl ?_
  refine g_alen F 46 0 xc_46 rfl 16 rfl dJ7_fill_53178_3 ?_
  refine g_istore_n F [(3, .int 16), (2, .int 0), (0, .ref (a 46)), (1, .int p1)] dJ7_fill_53178_4 rfl (by decide) rfl ?_
  refine g_locals [(0, .ref (a 46)), (1, .int p1), (2, .int 0), (3, .int 16)] [2, 3, 1, 0] rfl ?_
  exact J_5 _ 0 G (Nat.lt_succ_self _) (by decide) hI gu_un.rf (fun q h1 => by have h2 : (q : Int) < 0 := h1; omega)

theorem dX5_begin_0 : decode cX5_begin 0 = .ok (.aload_n 0, 1) := by decide +kernel
theorem dX5_begin_1 : decode cX5_begin 1 = .ok (.invokevirtual 119, 3) := by decide +kernel
theorem dX5_begin_4 : decode cX5_begin 4 = .ok (.aload_n 0, 1) := by decide +kernel
theorem dX5_begin_5 : decode cX5_begin 5 = .ok (.getfield 20, 3) := by decide +kernel
theorem dX5_begin_8 : decode cX5_begin 8 = .ok (.iconst (-1), 1) := by decide +kernel
theorem dX5_begin_9 : decode cX5_begin 9 = .ok (.invokestatic 122, 3) := by decide +kernel
theorem dX5_begin_12 : decode cX5_begin 12 = .ok (.aload_n 0, 1) := by decide +kernel
theorem dX5_begin_13 : decode cX5_begin 13 = .ok (.iload_n 1, 1) := by decide +kernel
theorem dX5_begin_14 : decode cX5_begin 14 = .ok (.putfield 128, 3) := by decide +kernel
theorem dX5_begin_17 : decode cX5_begin 17 = .ok (.aload_n 0, 1) := by decide +kernel
theorem dX5_begin_18 : decode cX5_begin 18 = .ok (.iconst 0, 1) := by decide +kernel
theorem dX5_begin_19 : decode cX5_begin 19 = .ok (.putfield 131, 3) := by decide +kernel
theorem dX5_begin_22 : decode cX5_begin 22 = .ok (.aload_n 0, 1) := by decide +kernel
theorem dX5_begin_23 : decode cX5_begin 23 = .ok (.iconst 0, 1) := by decide +kernel
theorem dX5_begin_24 : decode cX5_begin 24 = .ok (.putfield 134, 3) := by decide +kernel
theorem dX5_begin_27 : decode cX5_begin 27 = .ok (.aload_n 0, 1) := by decide +kernel
theorem dX5_begin_28 : decode cX5_begin 28 = .ok (.iconst 0, 1) := by decide +kernel
theorem dX5_begin_29 : decode cX5_begin 29 = .ok (.putfield 137, 3) := by decide +kernel
theorem dX5_begin_32 : decode cX5_begin 32 = .ok (.aload_n 0, 1) := by decide +kernel
theorem dX5_begin_33 : decode cX5_begin 33 = .ok (.iconst 0, 1) := by decide +kernel
theorem dX5_begin_34 : decode cX5_begin 34 = .ok (.putfield 140, 3) := by decide +kernel
theorem dX5_begin_37 : decode cX5_begin 37 = .ok (.aload_n 0, 1) := by decide +kernel
theorem dX5_begin_38 : decode cX5_begin 38 = .ok (.iconst 0, 1) := by decide +kernel
theorem dX5_begin_39 : decode cX5_begin 39 = .ok (.putfield 143, 3) := by decide +kernel
theorem dX5_begin_42 : decode cX5_begin 42 = .ok (.aload_n 0, 1) := by decide +kernel
theorem dX5_begin_43 : decode cX5_begin 43 = .ok (.iconst 0, 1) := by decide +kernel
theorem dX5_begin_44 : decode cX5_begin 44 = .ok (.putfield 83, 3) := by decide +kernel
theorem dX5_begin_47 : decode cX5_begin 47 = .ok (.return_, 1) := by decide +kernel
set_option maxRecDepth 20000 in
theorem ggX5_begin_J7_fill_53178 : GoodIn wsX5_begin wsJ7_fill_53178 := goodIn_r _ [22] rfl (by decide +kernel)
set_option maxRecDepth 20000 in
theorem gX5_begin_J7_fill_53178 : GoodIn wsX5_begin (va_wsS RX5 122 yJ7_fill_53178 wsJ7_fill_53178) := goodIn_app (goodIn_of _ (by decide +kernel)) ggX5_begin_J7_fill_53178
set_option maxRecDepth 20000 in
theorem ggX5_begin_X5_mountTeeth : GoodIn wsX5_begin wsX5_mountTeeth := goodIn_r _ [13, 14, 15, 16, 17, 18, 23, 24, 25, 26, 27, 28, 29, 30, 31, 32, 33, 34, 35, 36, 37, 38, 39, 40, 41, 42, 43, 44, 45, 46] rfl (by decide +kernel)
set_option maxRecDepth 20000 in
theorem gX5_begin_X5_mountTeeth : GoodIn wsX5_begin (wsV RX5 119 RX5 yX5_mountTeeth wsX5_mountTeeth) := goodIn_app (goodIn_of _ (by decide +kernel)) ggX5_begin_X5_mountTeeth
set_option maxHeartbeats 4000000 in
set_option maxRecDepth 100000 in
theorem S_X5_begin (l : Launch) (D : va_G) (K : Nat → ClassId) (a : Nat → Nat) (G : gS) (p0 : Int32) (s0 : Int) (e0 : p0.toInt = s0) (h0 : 0 ≤ s0 ∧ s0 ≤ 30000) (hI : xI G) (sz : Nat) : Kv l yX5_begin wsX5_begin 2 63 0 0 D [.ref (a 6), .int p0] (xW K a G) (tK K) sz (fun (G' : gS) => (xI G') ∧ (gu_un xcd [608, 613, 614, 615, 617, 618, 619, 620, 4400, 4600] G G') ∧ (xMt G G') ∧ ((∀ q : Nat, q < 16 → G' 46 q = -1)) ∧ ((G' 6 12 = p0 ∧ G' 6 13 = 0 ∧ G' 6 14 = 0 ∧ G' 6 16 = 0 ∧ G' 6 17 = 0 ∧ G' 6 18 = 0 ∧ G' 6 19 = 0))) (fun (G' : gS) => (xW K a G')) (fun _ => (tK K)) := by
  unfold Kv
  refine g_ofW (cc := cX5_begin) (lv := [(0, .ref (a 6)), (1, .int p0)]) (by decide) rfl (Nat.le_of_ble_eq_true rfl) rfl ?_
  intro p e s m args below meth c A Q hA hQ F hr hnm
  have hts := F.2.2.2.2.1
  have w_0 : (Cond.fieldLink RX5 20 "QuietCut$Lathe" "leftTurn" "[I").before args s = true := hts _ (List.mem_of_getElem? (i := 1) rfl)
  have i_X5 : ∀ w ∈ u_ws RX5 TX5 20, w ∈ wsX5_begin := fun _ h => List.mem_cons_of_mem _ (List.mem_append_left _ (List.mem_append_right _ h))
  have w_1 : (Cond.fieldLink RX5 128 "QuietCut$Lathe" "wear" "I").before args s = true := hts _ (List.mem_of_getElem? (i := 2) rfl)
  have w_2 : (Cond.fieldLink RX5 131 "QuietCut$Lathe" "x" "I").before args s = true := hts _ (List.mem_of_getElem? (i := 3) rfl)
  have w_3 : (Cond.fieldLink RX5 134 "QuietCut$Lathe" "v" "I").before args s = true := hts _ (List.mem_of_getElem? (i := 4) rfl)
  have w_4 : (Cond.fieldLink RX5 137 "QuietCut$Lathe" "time" "I").before args s = true := hts _ (List.mem_of_getElem? (i := 5) rfl)
  have w_5 : (Cond.fieldLink RX5 140 "QuietCut$Lathe" "out" "I").before args s = true := hts _ (List.mem_of_getElem? (i := 6) rfl)
  have w_6 : (Cond.fieldLink RX5 143 "QuietCut$Lathe" "farthest" "I").before args s = true := hts _ (List.mem_of_getElem? (i := 7) rfl)
  have w_7 : (Cond.fieldLink RX5 83 "QuietCut$Lathe" "begun" "I").before args s = true := hts _ (List.mem_of_getElem? (i := 8) rfl)
  refine g_aload_n F 0 dX5_begin_0 rfl rfl ?_
  refine u_callVv (k := 0) (n := 0) (b := a 6) (As := []) (st := []) F (fun sz => S_X5_mountTeeth l D K a G  hI sz) (cwV 0 hts gX5_begin_X5_mountTeeth rfl rfl rfl (by decide +kernel) ⟨Nat.le_of_ble_eq_true rfl, Nat.le_of_ble_eq_true rfl⟩) rfl 6 xc_6 rfl (Nat.le_of_ble_eq_true rfl) ⟨Nat.zero_le _, Nat.zero_le _⟩ dX5_begin_1 (fun G3 hw2 => ?_)
  have hI4 : xI G3 := hw2.1
  have hU5 : gu_un xcd [608, 4400] G G3 := hw2.2.1
  have hp6 := hw2.2.2
  have q7 : xMt G G3 := hp6
  clear hp6 hw2
  refine g_aload_n F 0 dX5_begin_4 rfl rfl ?_
  refine xg_6_9 F i_X5 w_0 dX5_begin_5 ?_
  refine g_iconst F (-1) dX5_begin_8 (by decide) ?_
  refine u_callSv (k := 0) (n := 0) (As := [.ref (a 46), .int (-1)]) (st := []) F (fun sz => S_J7_fill_53178_46 l D K a G3 (-1) (-1) rfl hI4 sz) (va_cwS 2 hts gX5_begin_J7_fill_53178 rfl rfl rfl (by decide +kernel) ⟨Nat.le_of_ble_eq_true rfl, Nat.le_of_ble_eq_true rfl⟩) rfl (Nat.le_of_ble_eq_true rfl) ⟨Nat.zero_le _, Nat.zero_le _⟩ dX5_begin_9 (fun G10 hw9 => ?_)
  have hI11 : xI G10 := hw9.1
  have hU12 : gu_un xcd [4600] G3 G10 := hw9.2.1
  have hp13 := hw9.2.2
  have q14 : (∀ q : Nat, q < 16 → G10 46 q = (-1)) := hp13
  clear hp13 hw9
  refine g_aload_n F 0 dX5_begin_12 rfl rfl ?_
  refine g_iload_n F 1 dX5_begin_13 rfl rfl ?_
  refine xp_6_12 F i_X5 w_1 dX5_begin_14 ?_
  refine g_aload_n F 0 dX5_begin_17 rfl rfl ?_
  refine g_iconst F 0 dX5_begin_18 (by decide) ?_
  refine xp_6_13 F i_X5 w_2 dX5_begin_19 ?_
  refine g_aload_n F 0 dX5_begin_22 rfl rfl ?_
  refine g_iconst F 0 dX5_begin_23 (by decide) ?_
  refine xp_6_14 F i_X5 w_3 dX5_begin_24 ?_
  refine g_aload_n F 0 dX5_begin_27 rfl rfl ?_
  refine g_iconst F 0 dX5_begin_28 (by decide) ?_
  refine xp_6_16 F i_X5 w_4 dX5_begin_29 ?_
  refine g_aload_n F 0 dX5_begin_32 rfl rfl ?_
  refine g_iconst F 0 dX5_begin_33 (by decide) ?_
  refine xp_6_17 F i_X5 w_5 dX5_begin_34 ?_
  refine g_aload_n F 0 dX5_begin_37 rfl rfl ?_
  refine g_iconst F 0 dX5_begin_38 (by decide) ?_
  refine xp_6_18 F i_X5 w_6 dX5_begin_39 ?_
  refine g_aload_n F 0 dX5_begin_42 rfl rfl ?_
  refine g_iconst F 0 dX5_begin_43 (by decide) ?_
  refine xp_6_19 F i_X5 w_7 dX5_begin_44 ?_
  exact u_vret F hA hQ hr (gu_up (gu_up (gu_up (gu_up (gu_up (gu_up (gu_up G10 6 12 p0) 6 13 0) 6 14 0) 6 16 0) 6 17 0) 6 18 0) 6 19 0) (⟨(gu_I.up (j := 6) (k := 19) (v := 0) (gu_I.up (j := 6) (k := 18) (v := 0) (gu_I.up (j := 6) (k := 17) (v := 0) (gu_I.up (j := 6) (k := 16) (v := 0) (gu_I.up (j := 6) (k := 14) (v := 0) (gu_I.up (j := 6) (k := 13) (v := 0) (gu_I.up (j := 6) (k := 12) (v := p0) hI11 (show (0 : Int) ≤ Int32.toInt p0 by omega) (show Int32.toInt p0 ≤ 30000 by omega)) (ti_rng _).1 (ti_rng _).2) (ti_rng _).1 (ti_rng _).2) (ti_rng _).1 (ti_rng _).2) (ti_rng _).1 (ti_rng _).2) (ti_rng _).1 (ti_rng _).2) (ti_rng _).1 (ti_rng _).2), (gu_un.up (j := 6) (k := 19) (v := 0) (gu_un.up (j := 6) (k := 18) (v := 0) (gu_un.up (j := 6) (k := 17) (v := 0) (gu_un.up (j := 6) (k := 16) (v := 0) (gu_un.up (j := 6) (k := 14) (v := 0) (gu_un.up (j := 6) (k := 13) (v := 0) (gu_un.up (j := 6) (k := 12) (v := p0) (gu_un.tr (gu_un.tr gu_un.rf (gu_un.su hU5 rfl)) (gu_un.su hU12 rfl)) (show (613 : Nat) ∈ ([608, 613, 614, 615, 617, 618, 619, 620, 4400, 4600] : List Nat) by decide)) (show (614 : Nat) ∈ ([608, 613, 614, 615, 617, 618, 619, 620, 4400, 4600] : List Nat) by decide)) (show (615 : Nat) ∈ ([608, 613, 614, 615, 617, 618, 619, 620, 4400, 4600] : List Nat) by decide)) (show (617 : Nat) ∈ ([608, 613, 614, 615, 617, 618, 619, 620, 4400, 4600] : List Nat) by decide)) (show (618 : Nat) ∈ ([608, 613, 614, 615, 617, 618, 619, 620, 4400, 4600] : List Nat) by decide)) (show (619 : Nat) ∈ ([608, 613, 614, 615, 617, 618, 619, 620, 4400, 4600] : List Nat) by decide)) (show (620 : Nat) ∈ ([608, 613, 614, 615, 617, 618, 619, 620, 4400, 4600] : List Nat) by decide)), (xMt.tr q7 ((show gu_un xcd [613, 614, 615, 617, 618, 619, 620, 4600] G3 (gu_up (gu_up (gu_up (gu_up (gu_up (gu_up (gu_up G10 6 12 p0) 6 13 0) 6 14 0) 6 16 0) 6 17 0) 6 18 0) 6 19 0) from (gu_un.up (j := 6) (k := 19) (v := 0) (gu_un.up (j := 6) (k := 18) (v := 0) (gu_un.up (j := 6) (k := 17) (v := 0) (gu_un.up (j := 6) (k := 16) (v := 0) (gu_un.up (j := 6) (k := 14) (v := 0) (gu_un.up (j := 6) (k := 13) (v := 0) (gu_un.up (j := 6) (k := 12) (v := p0) (gu_un.tr gu_un.rf (gu_un.su hU12 rfl)) (show (613 : Nat) ∈ ([613, 614, 615, 617, 618, 619, 620, 4600] : List Nat) by decide)) (show (614 : Nat) ∈ ([613, 614, 615, 617, 618, 619, 620, 4600] : List Nat) by decide)) (show (615 : Nat) ∈ ([613, 614, 615, 617, 618, 619, 620, 4600] : List Nat) by decide)) (show (617 : Nat) ∈ ([613, 614, 615, 617, 618, 619, 620, 4600] : List Nat) by decide)) (show (618 : Nat) ∈ ([613, 614, 615, 617, 618, 619, 620, 4600] : List Nat) by decide)) (show (619 : Nat) ∈ ([613, 614, 615, 617, 618, 619, 620, 4600] : List Nat) by decide)) (show (620 : Nat) ∈ ([613, 614, 615, 617, 618, 619, 620, 4600] : List Nat) by decide))) 6 7 (by decide)) (funext fun q => (show gu_un xcd [613, 614, 615, 617, 618, 619, 620, 4600] G3 (gu_up (gu_up (gu_up (gu_up (gu_up (gu_up (gu_up G10 6 12 p0) 6 13 0) 6 14 0) 6 16 0) 6 17 0) 6 18 0) 6 19 0) from (gu_un.up (j := 6) (k := 19) (v := 0) (gu_un.up (j := 6) (k := 18) (v := 0) (gu_un.up (j := 6) (k := 17) (v := 0) (gu_un.up (j := 6) (k := 16) (v := 0) (gu_un.up (j := 6) (k := 14) (v := 0) (gu_un.up (j := 6) (k := 13) (v := 0) (gu_un.up (j := 6) (k := 12) (v := p0) (gu_un.tr gu_un.rf (gu_un.su hU12 rfl)) (show (613 : Nat) ∈ ([613, 614, 615, 617, 618, 619, 620, 4600] : List Nat) by decide)) (show (614 : Nat) ∈ ([613, 614, 615, 617, 618, 619, 620, 4600] : List Nat) by decide)) (show (615 : Nat) ∈ ([613, 614, 615, 617, 618, 619, 620, 4600] : List Nat) by decide)) (show (617 : Nat) ∈ ([613, 614, 615, 617, 618, 619, 620, 4600] : List Nat) by decide)) (show (618 : Nat) ∈ ([613, 614, 615, 617, 618, 619, 620, 4600] : List Nat) by decide)) (show (619 : Nat) ∈ ([613, 614, 615, 617, 618, 619, 620, 4600] : List Nat) by decide)) (show (620 : Nat) ∈ ([613, 614, 615, 617, 618, 619, 620, 4600] : List Nat) by decide))) 44 q (by simp [xcd]))), (fun q hq => ((show gu_un xcd [613, 614, 615, 617, 618, 619, 620] G10 (gu_up (gu_up (gu_up (gu_up (gu_up (gu_up (gu_up G10 6 12 p0) 6 13 0) 6 14 0) 6 16 0) 6 17 0) 6 18 0) 6 19 0) from (gu_un.up (j := 6) (k := 19) (v := 0) (gu_un.up (j := 6) (k := 18) (v := 0) (gu_un.up (j := 6) (k := 17) (v := 0) (gu_un.up (j := 6) (k := 16) (v := 0) (gu_un.up (j := 6) (k := 14) (v := 0) (gu_un.up (j := 6) (k := 13) (v := 0) (gu_un.up (j := 6) (k := 12) (v := p0) gu_un.rf (show (613 : Nat) ∈ ([613, 614, 615, 617, 618, 619, 620] : List Nat) by decide)) (show (614 : Nat) ∈ ([613, 614, 615, 617, 618, 619, 620] : List Nat) by decide)) (show (615 : Nat) ∈ ([613, 614, 615, 617, 618, 619, 620] : List Nat) by decide)) (show (617 : Nat) ∈ ([613, 614, 615, 617, 618, 619, 620] : List Nat) by decide)) (show (618 : Nat) ∈ ([613, 614, 615, 617, 618, 619, 620] : List Nat) by decide)) (show (619 : Nat) ∈ ([613, 614, 615, 617, 618, 619, 620] : List Nat) by decide)) (show (620 : Nat) ∈ ([613, 614, 615, 617, 618, 619, 620] : List Nat) by decide))) 46 q (by simp [xcd])).trans (q14 q hq)), (⟨rfl, rfl, rfl, rfl, rfl, rfl, rfl⟩)⟩) rfl rfl dX5_begin_47

theorem dX5_within_0 : decode cX5_within 0 = .ok (.iload_n 1, 1) := by decide +kernel
theorem dX5_within_1 : decode cX5_within 1 = .ok (.iload_n 2, 1) := by decide +kernel
theorem dX5_within_2 : decode cX5_within 2 = .ok (.iload_n 0, 1) := by decide +kernel
theorem dX5_within_3 : decode cX5_within 3 = .ok (.invokestatic 159, 3) := by decide +kernel
theorem dX5_within_6 : decode cX5_within 6 = .ok (.invokestatic 146, 3) := by decide +kernel
theorem dX5_within_9 : decode cX5_within 9 = .ok (.ireturn, 1) := by decide +kernel
set_option maxHeartbeats 4000000 in
set_option maxRecDepth 100000 in
theorem S_X5_within (l : Launch) (D : va_G)  (p0 : Int32) (s0 : Int) (p1 : Int32) (s1 : Int) (p2 : Int32) (s2 : Int) (e0 : p0.toInt = s0) (e1 : p1.toInt = s1) (e2 : p2.toInt = s2) (sz : Nat) : Ki l yX5_within wsX5_within 1 40 0 0 D [.int p0, .int p1, .int p2] [] [] sz (fun (r : Int32) (_ : Unit) => ((r.toInt = max s1 (min s2 s0)))) (fun (_ : Unit) => []) (fun _ => []) := by
  unfold Ki
  refine g_ofW (cc := cX5_within) (lv := [(0, .int p0), (1, .int p1), (2, .int p2)]) (by decide) rfl (Nat.le_of_ble_eq_true rfl) rfl ?_
  intro p e s m args below meth c A Q hA hQ F hr hnm
  have hts := F.2.2.2.2.1
  have w_0 : (Cond.methodLink RX5 159 Lib.Math.min.name).before args s = true := hts _ (List.mem_of_getElem? (i := 1) rfl)
  have w_1 : (Cond.static Lib.Math.min.name).before args s = true := hts _ (List.mem_of_getElem? (i := 2) rfl)
  have w_2 : (Cond.initialized "java/lang/Math").before args s = true := hts _ (List.mem_of_getElem? (i := 3) rfl)
  have w_3 : (Cond.code Lib.Math.min.name Lib.Math.min.code 2 (some .int)).before args s = true := hts _ (List.mem_of_getElem? (i := 4) rfl)
  have w_4 : (Cond.methodLink RX5 146 Lib.Math.max.name).before args s = true := hts _ (List.mem_of_getElem? (i := 5) rfl)
  have w_5 : (Cond.static Lib.Math.max.name).before args s = true := hts _ (List.mem_of_getElem? (i := 6) rfl)
  have w_6 : (Cond.code Lib.Math.max.name Lib.Math.max.code 2 (some .int)).before args s = true := hts _ (List.mem_of_getElem? (i := 7) rfl)
  have rg0 : -2147483648 ≤ s0 ∧ s0 ≤ 2147483647 := e0 ▸ ti_rng p0
  have rg1 : -2147483648 ≤ s1 ∧ s1 ≤ 2147483647 := e1 ▸ ti_rng p1
  have rg2 : -2147483648 ≤ s2 ∧ s2 ≤ 2147483647 := e2 ▸ ti_rng p2
  refine g_iload_n F 1 dX5_within_0 rfl rfl ?_
  refine g_iload_n F 2 dX5_within_1 rfl rfl ?_
  refine g_iload_n F 0 dX5_within_2 rfl rfl ?_
  refine u_mmin F w_0 w_1 w_2 w_3 (Nat.le_of_ble_eq_true rfl) (Nat.le_of_ble_eq_true rfl) (Nat.le_of_ble_eq_true rfl) (Nat.le_of_ble_eq_true rfl) dX5_within_3 s2 s0 e2 e0 (fun y1 ey1 => ?_)
  refine u_mmax F w_4 w_5 w_2 w_6 (Nat.le_of_ble_eq_true rfl) (Nat.le_of_ble_eq_true rfl) (Nat.le_of_ble_eq_true rfl) (Nat.le_of_ble_eq_true rfl) dX5_within_6 s1 y1.toInt e1 rfl (fun y2 ey2 => ?_)
  exact u_iret F hA hQ hr () ((by show (y2.toInt = max s1 (min s2 s0)); (first | omega | (simp only [Int32.reduceToInt, true_and, and_true, ne_eq, not_true_eq_false, false_and, or_false, false_or, true_or, or_true, false_implies] <;> omega)))) rfl rfl dX5_within_9

theorem dX5_greatest_0 : decode cX5_greatest 0 = .ok (.ldc 162, 2) := by decide +kernel
theorem dX5_greatest_2 : decode cX5_greatest 2 = .ok (.istore_n 3, 1) := by decide +kernel
theorem dX5_greatest_3 : decode cX5_greatest 3 = .ok (.iload_n 1, 1) := by decide +kernel
theorem dX5_greatest_4 : decode cX5_greatest 4 = .ok (.istore 4, 2) := by decide +kernel
theorem dX5_greatest_6 : decode cX5_greatest 6 = .ok (.iload 4, 2) := by decide +kernel
theorem dX5_greatest_8 : decode cX5_greatest 8 = .ok (.iload_n 1, 1) := by decide +kernel
theorem dX5_greatest_9 : decode cX5_greatest 9 = .ok (.iload_n 2, 1) := by decide +kernel
theorem dX5_greatest_10 : decode cX5_greatest 10 = .ok (.iadd, 1) := by decide +kernel
theorem dX5_greatest_11 : decode cX5_greatest 11 = .ok (.if_icmp .ge 30, 3) := by decide +kernel
theorem dX5_greatest_14 : decode cX5_greatest 14 = .ok (.iload 4, 2) := by decide +kernel
theorem dX5_greatest_16 : decode cX5_greatest 16 = .ok (.ifCond .lt 25, 3) := by decide +kernel
theorem dX5_greatest_19 : decode cX5_greatest 19 = .ok (.iload 4, 2) := by decide +kernel
theorem dX5_greatest_21 : decode cX5_greatest 21 = .ok (.aload_n 0, 1) := by decide +kernel
theorem dX5_greatest_22 : decode cX5_greatest 22 = .ok (.arraylength, 1) := by decide +kernel
theorem dX5_greatest_23 : decode cX5_greatest 23 = .ok (.if_icmp .ge 18, 3) := by decide +kernel
theorem dX5_greatest_26 : decode cX5_greatest 26 = .ok (.iload_n 3, 1) := by decide +kernel
theorem dX5_greatest_27 : decode cX5_greatest 27 = .ok (.aload_n 0, 1) := by decide +kernel
theorem dX5_greatest_28 : decode cX5_greatest 28 = .ok (.iload 4, 2) := by decide +kernel
theorem dX5_greatest_30 : decode cX5_greatest 30 = .ok (.iaload, 1) := by decide +kernel
theorem dX5_greatest_31 : decode cX5_greatest 31 = .ok (.invokestatic 146, 3) := by decide +kernel
theorem dX5_greatest_34 : decode cX5_greatest 34 = .ok (.istore_n 3, 1) := by decide +kernel
theorem dX5_greatest_35 : decode cX5_greatest 35 = .ok (.iinc 4 1, 3) := by decide +kernel
theorem dX5_greatest_38 : decode cX5_greatest 38 = .ok (.goto (-32), 3) := by decide +kernel
theorem dX5_greatest_41 : decode cX5_greatest 41 = .ok (.iload_n 3, 1) := by decide +kernel
theorem dX5_greatest_42 : decode cX5_greatest 42 = .ok (.ireturn, 1) := by decide +kernel
set_option maxHeartbeats 4000000 in
set_option maxRecDepth 100000 in
theorem S_X5_greatest_45 (l : Launch) (D : va_G) (K : Nat → ClassId) (a : Nat → Nat) (G : gS) (p1 : Int32) (s1 : Int) (p2 : Int32) (s2 : Int) (e1 : p1.toInt = s1) (h1 : 0 ≤ s1 ∧ s1 ≤ 0) (e2 : p2.toInt = s2) (h2 : 1 ≤ s2 ∧ s2 ≤ 16) (hI : xI G) (sz : Nat) : Ki l yX5_greatest wsX5_greatest 1 40 0 0 D [.ref (a 45), .int p1, .int p2] (xW K a G) (tK K) sz (fun (r : Int32) (_ : Unit) => ((-1000000) ≤ r.toInt ∧ r.toInt ≤ 5000) ∧ ((s1 = 0 ∧ 1 ≤ s2 ∧ s2 ≤ 16 → r.toInt = psMx (G 45) (s2 - 1).toNat))) (fun (_ : Unit) => (xW K a G)) (fun _ => (tK K)) := by
  unfold Ki
  refine g_ofW (cc := cX5_greatest) (lv := [(0, .ref (a 45)), (1, .int p1), (2, .int p2)]) (by decide) rfl (Nat.le_of_ble_eq_true rfl) rfl ?_
  intro p e s m args below meth c A Q hA hQ F hr hnm
  have hts := F.2.2.2.2.1
  have w_0 : (Cond.methodLink RX5 146 Lib.Math.max.name).before args s = true := hts _ (List.mem_of_getElem? (i := 2) rfl)
  have w_1 : (Cond.static Lib.Math.max.name).before args s = true := hts _ (List.mem_of_getElem? (i := 3) rfl)
  have w_2 : (Cond.initialized "java/lang/Math").before args s = true := hts _ (List.mem_of_getElem? (i := 4) rfl)
  have w_3 : (Cond.code Lib.Math.max.name Lib.Math.max.code 2 (some .int)).before args s = true := hts _ (List.mem_of_getElem? (i := 5) rfl)
  have w_4 : (Cond.constant RX5 162 (-1000000)).before args s = true := hts _ (List.mem_of_getElem? (i := 1) rfl)
  have J_6 : ∀ (fuel : Nat) (x6_3 : Int32) (x6_4 : Int32), (2147483647 - x6_4.toInt).toNat < fuel → ((-1000000) ≤ x6_3.toInt ∧ x6_3.toInt ≤ 5000) → (0 ≤ x6_4.toInt ∧ x6_4.toInt ≤ 16) → ((s1 = 0 → (x6_4.toInt = 0 ∧ x6_3.toInt = -1000000) ∨ (1 ≤ x6_4.toInt ∧ x6_3.toInt = psMx ((G 45)) (x6_4.toInt - 1).toNat))) → ((s1 ≠ 0 ∨ s2 < 1 ∨ 16 < s2 ∨ x6_4.toInt ≤ s2)) → gG p l e (gR 1 0 0 40) s m args below meth c D A 5 Q 0 0 (xW K a G) (tK K) [(0, .ref (a 45)), (1, .int p1), (2, .int p2), (3, .int x6_3), (4, .int x6_4)] 6 [] := by
    intro fuel
    induction fuel with
    | zero => intro x6_3 x6_4 hm; exact absurd hm (Nat.not_lt_zero _)
    | succ fuel_6 ih_6 =>
      intro x6_3 x6_4 hm_6 h6_3 h6_4 gm ib
      refine g_iload F 4 dX5_greatest_6 rfl ?_
      refine g_iload_n F 1 dX5_greatest_8 rfl rfl ?_
      refine g_iload_n F 2 dX5_greatest_9 rfl rfl ?_
      refine u_iadd F dX5_greatest_10 s1 s2 e1 e2 (by omega) (by omega) (fun y1 ey1 => ?_)
      refine v_icmp_ge F 41 dX5_greatest_11 (by decide) x6_4.toInt y1.toInt rfl rfl (fun c2 => ?_) (fun c2 => ?_)
      · refine g_iload_n F 3 dX5_greatest_41 rfl rfl ?_
        exact u_iret F hA hQ hr () (⟨(by have h9 := ti_rng x6_3; omega), (fun h9 => by rcases gm h9.1 with ⟨g1, g2⟩ | ⟨g1, g2⟩ <;> first | (exfalso; omega) | (rw [g2, show x6_4.toInt = s2 by omega]))⟩) rfl rfl dX5_greatest_42
      · refine g_iload F 4 dX5_greatest_14 rfl ?_
        refine v_if_lt F 41 dX5_greatest_16 (by decide) x6_4.toInt rfl (fun c3 => absurd c3 (by omega)) (fun c3 => ?_)
        refine g_iload F 4 dX5_greatest_19 rfl ?_
        refine g_aload_n F 0 dX5_greatest_21 rfl rfl ?_
        refine g_alen F 45 0 xc_45 rfl 16 rfl dX5_greatest_22 ?_
        refine v_icmp_ge F 41 dX5_greatest_23 (by decide) x6_4.toInt 16 rfl rfl (fun c4 => absurd c4 (by omega)) (fun c4 => ?_)
        refine g_iload_n F 3 dX5_greatest_26 rfl rfl ?_
        refine g_aload_n F 0 dX5_greatest_27 rfl rfl ?_
        refine g_iload F 4 dX5_greatest_28 rfl ?_
        refine u1_iald F 45 0 xc_45 rfl x6_4.toInt rfl (by omega) (by omega) dX5_greatest_30 ((G 45) (x6_4.toInt).toNat) (rfl) ?_
        have b5 : ((-9998) : Int) ≤ ((G 45) (x6_4.toInt).toNat).toInt ∧ ((G 45) (x6_4.toInt).toNat).toInt ≤ 5000 := hI 45 _
        refine u_mmax F w_0 w_1 w_2 w_3 (Nat.le_of_ble_eq_true rfl) (Nat.le_of_ble_eq_true rfl) (Nat.le_of_ble_eq_true rfl) (Nat.le_of_ble_eq_true rfl) dX5_greatest_31 x6_3.toInt ((G 45) (x6_4.toInt).toNat).toInt rfl rfl (fun y6 ey6 => ?_)
        refine g_istore_n F [(3, .int y6), (0, .ref (a 45)), (1, .int p1), (2, .int p2), (4, .int x6_4)] dX5_greatest_34 rfl (by decide) rfl ?_
        refine u_iinc F (fun v_ => [(4, .int v_), (3, .int y6), (0, .ref (a 45)), (1, .int p1), (2, .int p2)]) dX5_greatest_35 (j := 4) rfl x6_4.toInt 1 rfl rfl (by omega) (by omega) (by decide) (fun _ => rfl) (fun y7 ey7 => ?_)
        refine g_goto F 6 dX5_greatest_38 (by decide) ?_
        refine g_locals [(0, .ref (a 45)), (1, .int p1), (2, .int p2), (3, .int y6), (4, .int y7)] [2, 3, 4, 1, 0] rfl ?_
        exact ih_6 y6 y7 (by omega) (by have h9 := ti_rng y6; omega) (by have h9 := ti_rng y7; omega) (fun h0 => psMx_go (i := x6_4.toInt) (m := x6_3.toInt) (by omega) (by omega) (gm h0) (by omega) (by omega)) (by (first | omega | (simp only [Int32.reduceToInt, true_and, and_true, ne_eq, not_true_eq_false, false_and, or_false, false_or, true_or, or_true, false_implies] <;> omega)))
  refine g_ldc F w_4 dX5_greatest_0 ?_
  refine g_istore_n F [(3, .int (-1000000)), (0, .ref (a 45)), (1, .int p1), (2, .int p2)] dX5_greatest_2 rfl (by decide) rfl ?_
  refine g_iload_n F 2 dX5_greatest_3 rfl rfl ?_
  refine g_istore F [(4, .int p1), (3, .int (-1000000)), (0, .ref (a 45)), (1, .int p1), (2, .int p2)] dX5_greatest_4 (by decide) rfl ?_
  refine g_locals [(0, .ref (a 45)), (1, .int p1), (2, .int p2), (3, .int (-1000000)), (4, .int p1)] [2, 3, 4, 1, 0] rfl ?_
  exact J_6 _ (-1000000) p1 (Nat.lt_succ_self _) (by decide) (by have h9 := ti_rng p1; omega) (fun h0 => Or.inl ⟨by omega, by decide⟩) (by (first | omega | (simp only [Int32.reduceToInt, true_and, and_true, ne_eq, not_true_eq_false, false_and, or_false, false_or, true_or, or_true, false_implies] <;> omega)))

theorem dX5_least_0 : decode cX5_least 0 = .ok (.ldc 163, 2) := by decide +kernel
theorem dX5_least_2 : decode cX5_least 2 = .ok (.istore_n 3, 1) := by decide +kernel
theorem dX5_least_3 : decode cX5_least 3 = .ok (.iload_n 1, 1) := by decide +kernel
theorem dX5_least_4 : decode cX5_least 4 = .ok (.istore 4, 2) := by decide +kernel
theorem dX5_least_6 : decode cX5_least 6 = .ok (.iload 4, 2) := by decide +kernel
theorem dX5_least_8 : decode cX5_least 8 = .ok (.iload_n 1, 1) := by decide +kernel
theorem dX5_least_9 : decode cX5_least 9 = .ok (.iload_n 2, 1) := by decide +kernel
theorem dX5_least_10 : decode cX5_least 10 = .ok (.iadd, 1) := by decide +kernel
theorem dX5_least_11 : decode cX5_least 11 = .ok (.if_icmp .ge 30, 3) := by decide +kernel
theorem dX5_least_14 : decode cX5_least 14 = .ok (.iload 4, 2) := by decide +kernel
theorem dX5_least_16 : decode cX5_least 16 = .ok (.ifCond .lt 25, 3) := by decide +kernel
theorem dX5_least_19 : decode cX5_least 19 = .ok (.iload 4, 2) := by decide +kernel
theorem dX5_least_21 : decode cX5_least 21 = .ok (.aload_n 0, 1) := by decide +kernel
theorem dX5_least_22 : decode cX5_least 22 = .ok (.arraylength, 1) := by decide +kernel
theorem dX5_least_23 : decode cX5_least 23 = .ok (.if_icmp .ge 18, 3) := by decide +kernel
theorem dX5_least_26 : decode cX5_least 26 = .ok (.iload_n 3, 1) := by decide +kernel
theorem dX5_least_27 : decode cX5_least 27 = .ok (.aload_n 0, 1) := by decide +kernel
theorem dX5_least_28 : decode cX5_least 28 = .ok (.iload 4, 2) := by decide +kernel
theorem dX5_least_30 : decode cX5_least 30 = .ok (.iaload, 1) := by decide +kernel
theorem dX5_least_31 : decode cX5_least 31 = .ok (.invokestatic 159, 3) := by decide +kernel
theorem dX5_least_34 : decode cX5_least 34 = .ok (.istore_n 3, 1) := by decide +kernel
theorem dX5_least_35 : decode cX5_least 35 = .ok (.iinc 4 1, 3) := by decide +kernel
theorem dX5_least_38 : decode cX5_least 38 = .ok (.goto (-32), 3) := by decide +kernel
theorem dX5_least_41 : decode cX5_least 41 = .ok (.iload_n 3, 1) := by decide +kernel
theorem dX5_least_42 : decode cX5_least 42 = .ok (.ireturn, 1) := by decide +kernel
set_option maxHeartbeats 4000000 in
set_option maxRecDepth 100000 in
theorem S_X5_least_38 (l : Launch) (D : va_G) (K : Nat → ClassId) (a : Nat → Nat) (G : gS) (p1 : Int32) (s1 : Int) (p2 : Int32) (s2 : Int) (e1 : p1.toInt = s1) (h1 : 0 ≤ s1 ∧ s1 ≤ 80) (e2 : p2.toInt = s2) (h2 : 1 ≤ s2 ∧ s2 ≤ 16) (hI : xI G) (sz : Nat) : Ki l yX5_least wsX5_least 1 40 0 0 D [.ref (a 38), .int p1, .int p2] (xW K a G) (tK K) sz (fun (r : Int32) (_ : Unit) => ((-9998) ≤ r.toInt ∧ r.toInt ≤ 1000000) ∧ ((0 ≤ s1 ∧ 1 ≤ s2 ∧ s1 + s2 ≤ 96 → r.toInt = psMn (fun q => (G 38) (s1.toNat + q)) (s2 - 1).toNat))) (fun (_ : Unit) => (xW K a G)) (fun _ => (tK K)) := by
  unfold Ki
  refine g_ofW (cc := cX5_least) (lv := [(0, .ref (a 38)), (1, .int p1), (2, .int p2)]) (by decide) rfl (Nat.le_of_ble_eq_true rfl) rfl ?_
  intro p e s m args below meth c A Q hA hQ F hr hnm
  have hts := F.2.2.2.2.1
  have w_0 : (Cond.methodLink RX5 159 Lib.Math.min.name).before args s = true := hts _ (List.mem_of_getElem? (i := 2) rfl)
  have w_1 : (Cond.static Lib.Math.min.name).before args s = true := hts _ (List.mem_of_getElem? (i := 3) rfl)
  have w_2 : (Cond.initialized "java/lang/Math").before args s = true := hts _ (List.mem_of_getElem? (i := 4) rfl)
  have w_3 : (Cond.code Lib.Math.min.name Lib.Math.min.code 2 (some .int)).before args s = true := hts _ (List.mem_of_getElem? (i := 5) rfl)
  have w_4 : (Cond.constant RX5 163 (1000000)).before args s = true := hts _ (List.mem_of_getElem? (i := 1) rfl)
  have J_6 : ∀ (fuel : Nat) (x6_3 : Int32) (x6_4 : Int32), (2147483647 - x6_4.toInt).toNat < fuel → ((-9998) ≤ x6_3.toInt ∧ x6_3.toInt ≤ 1000000) → (0 ≤ x6_4.toInt ∧ x6_4.toInt ≤ 96) → ((0 ≤ s1 → s1 ≤ x6_4.toInt ∧ ((x6_4.toInt = s1 ∧ x6_3.toInt = 1000000) ∨ (s1 + 1 ≤ x6_4.toInt ∧ x6_3.toInt = psMn (fun q => ((G 38)) (s1.toNat + q)) (x6_4.toInt - 1 - s1).toNat)))) → ((s1 < 0 ∨ s2 < 1 ∨ 96 < s1 + s2 ∨ x6_4.toInt ≤ s1 + s2)) → gG p l e (gR 1 0 0 40) s m args below meth c D A 5 Q 0 0 (xW K a G) (tK K) [(0, .ref (a 38)), (1, .int p1), (2, .int p2), (3, .int x6_3), (4, .int x6_4)] 6 [] := by
    intro fuel
    induction fuel with
    | zero => intro x6_3 x6_4 hm; exact absurd hm (Nat.not_lt_zero _)
    | succ fuel_6 ih_6 =>
      intro x6_3 x6_4 hm_6 h6_3 h6_4 lm ib
      refine g_iload F 4 dX5_least_6 rfl ?_
      refine g_iload_n F 1 dX5_least_8 rfl rfl ?_
      refine g_iload_n F 2 dX5_least_9 rfl rfl ?_
      refine u_iadd F dX5_least_10 s1 s2 e1 e2 (by omega) (by omega) (fun y1 ey1 => ?_)
      refine v_icmp_ge F 41 dX5_least_11 (by decide) x6_4.toInt y1.toInt rfl rfl (fun c2 => ?_) (fun c2 => ?_)
      · refine g_iload_n F 3 dX5_least_41 rfl rfl ?_
        exact u_iret F hA hQ hr () (⟨(by have h9 := ti_rng x6_3; omega), (fun h9 => by rcases (lm h9.1).2 with ⟨g1, g2⟩ | ⟨g1, g2⟩ <;> first | (exfalso; omega) | (rw [g2, show x6_4.toInt - 1 - s1 = s2 - 1 by omega]))⟩) rfl rfl dX5_least_42
      · refine g_iload F 4 dX5_least_14 rfl ?_
        refine v_if_lt F 41 dX5_least_16 (by decide) x6_4.toInt rfl (fun c3 => absurd c3 (by omega)) (fun c3 => ?_)
        refine g_iload F 4 dX5_least_19 rfl ?_
        refine g_aload_n F 0 dX5_least_21 rfl rfl ?_
        refine g_alen F 38 0 xc_38 rfl 96 rfl dX5_least_22 ?_
        refine v_icmp_ge F 41 dX5_least_23 (by decide) x6_4.toInt 96 rfl rfl (fun c4 => absurd c4 (by omega)) (fun c4 => ?_)
        refine g_iload_n F 3 dX5_least_26 rfl rfl ?_
        refine g_aload_n F 0 dX5_least_27 rfl rfl ?_
        refine g_iload F 4 dX5_least_28 rfl ?_
        refine u1_iald F 38 0 xc_38 rfl x6_4.toInt rfl (by omega) (by omega) dX5_least_30 ((G 38) (x6_4.toInt).toNat) (rfl) ?_
        have b5 : ((-9998) : Int) ≤ ((G 38) (x6_4.toInt).toNat).toInt ∧ ((G 38) (x6_4.toInt).toNat).toInt ≤ 5000 := hI 38 _
        refine u_mmin F w_0 w_1 w_2 w_3 (Nat.le_of_ble_eq_true rfl) (Nat.le_of_ble_eq_true rfl) (Nat.le_of_ble_eq_true rfl) (Nat.le_of_ble_eq_true rfl) dX5_least_31 x6_3.toInt ((G 38) (x6_4.toInt).toNat).toInt rfl rfl (fun y6 ey6 => ?_)
        refine g_istore_n F [(3, .int y6), (0, .ref (a 38)), (1, .int p1), (2, .int p2), (4, .int x6_4)] dX5_least_34 rfl (by decide) rfl ?_
        refine u_iinc F (fun v_ => [(4, .int v_), (3, .int y6), (0, .ref (a 38)), (1, .int p1), (2, .int p2)]) dX5_least_35 (j := 4) rfl x6_4.toInt 1 rfl rfl (by omega) (by omega) (by decide) (fun _ => rfl) (fun y7 ey7 => ?_)
        refine g_goto F 6 dX5_least_38 (by decide) ?_
        refine g_locals [(0, .ref (a 38)), (1, .int p1), (2, .int p2), (3, .int y6), (4, .int y7)] [2, 3, 4, 1, 0] rfl ?_
        exact ih_6 y6 y7 (by omega) (by have h9 := ti_rng y6; omega) (by have h9 := ti_rng y7; omega) (fun h0 => ⟨by have h9 := (lm h0).1; omega, psMn_go (i := x6_4.toInt) (m := x6_3.toInt) h0 (lm h0).1 (by omega) (lm h0).2 (by omega) (by omega)⟩) (by first | omega | (simp only [Int32.reduceToInt, true_and, and_true, ne_eq, not_true_eq_false, false_and, or_false, false_or, true_or, or_true, false_implies] <;> omega))
  refine g_ldc F w_4 dX5_least_0 ?_
  refine g_istore_n F [(3, .int 1000000), (0, .ref (a 38)), (1, .int p1), (2, .int p2)] dX5_least_2 rfl (by decide) rfl ?_
  refine g_iload_n F 2 dX5_least_3 rfl rfl ?_
  refine g_istore F [(4, .int p1), (3, .int 1000000), (0, .ref (a 38)), (1, .int p1), (2, .int p2)] dX5_least_4 (by decide) rfl ?_
  refine g_locals [(0, .ref (a 38)), (1, .int p1), (2, .int p2), (3, .int 1000000), (4, .int p1)] [2, 3, 4, 1, 0] rfl ?_
  exact J_6 _ 1000000 p1 (Nat.lt_succ_self _) (by decide) (by have h9 := ti_rng p1; omega) (fun h0 => ⟨by omega, Or.inl ⟨by omega, by decide⟩⟩) (by first | omega | (simp only [Int32.reduceToInt, true_and, and_true, ne_eq, not_true_eq_false, false_and, or_false, false_or, true_or, or_true, false_implies] <;> omega))

theorem dX5_swingsTooFar_0 : decode cX5_swingsTooFar 0 = .ok (.iconst 1, 1) := by decide +kernel
theorem dX5_swingsTooFar_1 : decode cX5_swingsTooFar 1 = .ok (.aload_n 0, 1) := by decide +kernel
theorem dX5_swingsTooFar_2 : decode cX5_swingsTooFar 2 = .ok (.getfield 29, 3) := by decide +kernel
theorem dX5_swingsTooFar_5 : decode cX5_swingsTooFar 5 = .ok (.getfield 56, 3) := by decide +kernel
theorem dX5_swingsTooFar_8 : decode cX5_swingsTooFar 8 = .ok (.iconst 2, 1) := by decide +kernel
theorem dX5_swingsTooFar_9 : decode cX5_swingsTooFar 9 = .ok (.iaload, 1) := by decide +kernel
theorem dX5_swingsTooFar_10 : decode cX5_swingsTooFar 10 = .ok (.invokestatic 146, 3) := by decide +kernel
theorem dX5_swingsTooFar_13 : decode cX5_swingsTooFar 13 = .ok (.istore 5, 2) := by decide +kernel
theorem dX5_swingsTooFar_15 : decode cX5_swingsTooFar 15 = .ok (.aload_n 0, 1) := by decide +kernel
theorem dX5_swingsTooFar_16 : decode cX5_swingsTooFar 16 = .ok (.getfield 29, 3) := by decide +kernel
theorem dX5_swingsTooFar_19 : decode cX5_swingsTooFar 19 = .ok (.getfield 56, 3) := by decide +kernel
theorem dX5_swingsTooFar_22 : decode cX5_swingsTooFar 22 = .ok (.bipush 7, 2) := by decide +kernel
theorem dX5_swingsTooFar_24 : decode cX5_swingsTooFar 24 = .ok (.iaload, 1) := by decide +kernel
theorem dX5_swingsTooFar_25 : decode cX5_swingsTooFar 25 = .ok (.istore 6, 2) := by decide +kernel
theorem dX5_swingsTooFar_27 : decode cX5_swingsTooFar 27 = .ok (.aload_n 0, 1) := by decide +kernel
theorem dX5_swingsTooFar_28 : decode cX5_swingsTooFar 28 = .ok (.getfield 131, 3) := by decide +kernel
theorem dX5_swingsTooFar_31 : decode cX5_swingsTooFar 31 = .ok (.istore 7, 2) := by decide +kernel
theorem dX5_swingsTooFar_33 : decode cX5_swingsTooFar 33 = .ok (.aload_n 0, 1) := by decide +kernel
theorem dX5_swingsTooFar_34 : decode cX5_swingsTooFar 34 = .ok (.getfield 134, 3) := by decide +kernel
theorem dX5_swingsTooFar_37 : decode cX5_swingsTooFar 37 = .ok (.istore 8, 2) := by decide +kernel
theorem dX5_swingsTooFar_39 : decode cX5_swingsTooFar 39 = .ok (.aload_n 0, 1) := by decide +kernel
theorem dX5_swingsTooFar_40 : decode cX5_swingsTooFar 40 = .ok (.getfield 143, 3) := by decide +kernel
theorem dX5_swingsTooFar_43 : decode cX5_swingsTooFar 43 = .ok (.istore 9, 2) := by decide +kernel
theorem dX5_swingsTooFar_45 : decode cX5_swingsTooFar 45 = .ok (.iconst 0, 1) := by decide +kernel
theorem dX5_swingsTooFar_46 : decode cX5_swingsTooFar 46 = .ok (.istore 10, 2) := by decide +kernel
theorem dX5_swingsTooFar_48 : decode cX5_swingsTooFar 48 = .ok (.iconst 0, 1) := by decide +kernel
theorem dX5_swingsTooFar_49 : decode cX5_swingsTooFar 49 = .ok (.istore 11, 2) := by decide +kernel
theorem dX5_swingsTooFar_51 : decode cX5_swingsTooFar 51 = .ok (.iload 11, 2) := by decide +kernel
theorem dX5_swingsTooFar_53 : decode cX5_swingsTooFar 53 = .ok (.iload_n 1, 1) := by decide +kernel
theorem dX5_swingsTooFar_54 : decode cX5_swingsTooFar 54 = .ok (.if_icmp .ge 86, 3) := by decide +kernel
theorem dX5_swingsTooFar_57 : decode cX5_swingsTooFar 57 = .ok (.iload 10, 2) := by decide +kernel
theorem dX5_swingsTooFar_59 : decode cX5_swingsTooFar 59 = .ok (.ifCond .ne 81, 3) := by decide +kernel
theorem dX5_swingsTooFar_62 : decode cX5_swingsTooFar 62 = .ok (.iload 8, 2) := by decide +kernel
theorem dX5_swingsTooFar_64 : decode cX5_swingsTooFar 64 = .ok (.iload_n 2, 1) := by decide +kernel
theorem dX5_swingsTooFar_65 : decode cX5_swingsTooFar 65 = .ok (.iload_n 3, 1) := by decide +kernel
theorem dX5_swingsTooFar_66 : decode cX5_swingsTooFar 66 = .ok (.iload 7, 2) := by decide +kernel
theorem dX5_swingsTooFar_68 : decode cX5_swingsTooFar 68 = .ok (.imul, 1) := by decide +kernel
theorem dX5_swingsTooFar_69 : decode cX5_swingsTooFar 69 = .ok (.isub, 1) := by decide +kernel
theorem dX5_swingsTooFar_70 : decode cX5_swingsTooFar 70 = .ok (.iload 4, 2) := by decide +kernel
theorem dX5_swingsTooFar_72 : decode cX5_swingsTooFar 72 = .ok (.iload 8, 2) := by decide +kernel
theorem dX5_swingsTooFar_74 : decode cX5_swingsTooFar 74 = .ok (.imul, 1) := by decide +kernel
theorem dX5_swingsTooFar_75 : decode cX5_swingsTooFar 75 = .ok (.isub, 1) := by decide +kernel
theorem dX5_swingsTooFar_76 : decode cX5_swingsTooFar 76 = .ok (.iload 5, 2) := by decide +kernel
theorem dX5_swingsTooFar_78 : decode cX5_swingsTooFar 78 = .ok (.idiv, 1) := by decide +kernel
theorem dX5_swingsTooFar_79 : decode cX5_swingsTooFar 79 = .ok (.iadd, 1) := by decide +kernel
theorem dX5_swingsTooFar_80 : decode cX5_swingsTooFar 80 = .ok (.istore 8, 2) := by decide +kernel
theorem dX5_swingsTooFar_82 : decode cX5_swingsTooFar 82 = .ok (.iload 7, 2) := by decide +kernel
theorem dX5_swingsTooFar_84 : decode cX5_swingsTooFar 84 = .ok (.iload 8, 2) := by decide +kernel
theorem dX5_swingsTooFar_86 : decode cX5_swingsTooFar 86 = .ok (.iadd, 1) := by decide +kernel
theorem dX5_swingsTooFar_87 : decode cX5_swingsTooFar 87 = .ok (.istore 7, 2) := by decide +kernel
theorem dX5_swingsTooFar_89 : decode cX5_swingsTooFar 89 = .ok (.iinc 11 1, 3) := by decide +kernel
theorem dX5_swingsTooFar_92 : decode cX5_swingsTooFar 92 = .ok (.iload 7, 2) := by decide +kernel
theorem dX5_swingsTooFar_94 : decode cX5_swingsTooFar 94 = .ok (.ifCond .ge 9, 3) := by decide +kernel
theorem dX5_swingsTooFar_97 : decode cX5_swingsTooFar 97 = .ok (.iload 7, 2) := by decide +kernel
theorem dX5_swingsTooFar_99 : decode cX5_swingsTooFar 99 = .ok (.ineg, 1) := by decide +kernel
theorem dX5_swingsTooFar_100 : decode cX5_swingsTooFar 100 = .ok (.goto 5, 3) := by decide +kernel
theorem dX5_swingsTooFar_103 : decode cX5_swingsTooFar 103 = .ok (.iload 7, 2) := by decide +kernel
theorem dX5_swingsTooFar_105 : decode cX5_swingsTooFar 105 = .ok (.istore 12, 2) := by decide +kernel
theorem dX5_swingsTooFar_107 : decode cX5_swingsTooFar 107 = .ok (.iload 12, 2) := by decide +kernel
theorem dX5_swingsTooFar_109 : decode cX5_swingsTooFar 109 = .ok (.iload 9, 2) := by decide +kernel
theorem dX5_swingsTooFar_111 : decode cX5_swingsTooFar 111 = .ok (.if_icmp .le 8, 3) := by decide +kernel
theorem dX5_swingsTooFar_114 : decode cX5_swingsTooFar 114 = .ok (.iload 12, 2) := by decide +kernel
theorem dX5_swingsTooFar_116 : decode cX5_swingsTooFar 116 = .ok (.goto 5, 3) := by decide +kernel
theorem dX5_swingsTooFar_119 : decode cX5_swingsTooFar 119 = .ok (.iload 9, 2) := by decide +kernel
theorem dX5_swingsTooFar_121 : decode cX5_swingsTooFar 121 = .ok (.istore 9, 2) := by decide +kernel
theorem dX5_swingsTooFar_123 : decode cX5_swingsTooFar 123 = .ok (.iload 12, 2) := by decide +kernel
theorem dX5_swingsTooFar_125 : decode cX5_swingsTooFar 125 = .ok (.iload 6, 2) := by decide +kernel
theorem dX5_swingsTooFar_127 : decode cX5_swingsTooFar 127 = .ok (.if_icmp .le 7, 3) := by decide +kernel
theorem dX5_swingsTooFar_130 : decode cX5_swingsTooFar 130 = .ok (.iconst 1, 1) := by decide +kernel
theorem dX5_swingsTooFar_131 : decode cX5_swingsTooFar 131 = .ok (.goto 4, 3) := by decide +kernel
theorem dX5_swingsTooFar_134 : decode cX5_swingsTooFar 134 = .ok (.iconst 0, 1) := by decide +kernel
theorem dX5_swingsTooFar_135 : decode cX5_swingsTooFar 135 = .ok (.istore 10, 2) := by decide +kernel
theorem dX5_swingsTooFar_137 : decode cX5_swingsTooFar 137 = .ok (.goto (-86), 3) := by decide +kernel
theorem dX5_swingsTooFar_140 : decode cX5_swingsTooFar 140 = .ok (.aload_n 0, 1) := by decide +kernel
theorem dX5_swingsTooFar_141 : decode cX5_swingsTooFar 141 = .ok (.iload 7, 2) := by decide +kernel
theorem dX5_swingsTooFar_143 : decode cX5_swingsTooFar 143 = .ok (.putfield 131, 3) := by decide +kernel
theorem dX5_swingsTooFar_146 : decode cX5_swingsTooFar 146 = .ok (.aload_n 0, 1) := by decide +kernel
theorem dX5_swingsTooFar_147 : decode cX5_swingsTooFar 147 = .ok (.iload 8, 2) := by decide +kernel
theorem dX5_swingsTooFar_149 : decode cX5_swingsTooFar 149 = .ok (.putfield 134, 3) := by decide +kernel
theorem dX5_swingsTooFar_152 : decode cX5_swingsTooFar 152 = .ok (.aload_n 0, 1) := by decide +kernel
theorem dX5_swingsTooFar_153 : decode cX5_swingsTooFar 153 = .ok (.iload 9, 2) := by decide +kernel
theorem dX5_swingsTooFar_155 : decode cX5_swingsTooFar 155 = .ok (.putfield 143, 3) := by decide +kernel
theorem dX5_swingsTooFar_158 : decode cX5_swingsTooFar 158 = .ok (.aload_n 0, 1) := by decide +kernel
theorem dX5_swingsTooFar_159 : decode cX5_swingsTooFar 159 = .ok (.dup, 1) := by decide +kernel
theorem dX5_swingsTooFar_160 : decode cX5_swingsTooFar 160 = .ok (.getfield 137, 3) := by decide +kernel
theorem dX5_swingsTooFar_163 : decode cX5_swingsTooFar 163 = .ok (.iload 11, 2) := by decide +kernel
theorem dX5_swingsTooFar_165 : decode cX5_swingsTooFar 165 = .ok (.iadd, 1) := by decide +kernel
theorem dX5_swingsTooFar_166 : decode cX5_swingsTooFar 166 = .ok (.putfield 137, 3) := by decide +kernel
theorem dX5_swingsTooFar_169 : decode cX5_swingsTooFar 169 = .ok (.iload 10, 2) := by decide +kernel
theorem dX5_swingsTooFar_171 : decode cX5_swingsTooFar 171 = .ok (.ireturn, 1) := by decide +kernel
set_option maxHeartbeats 4000000 in
set_option maxRecDepth 100000 in
theorem S_X5_swingsTooFar (l : Launch) (D : va_G) (K : Nat → ClassId) (a : Nat → Nat) (G : gS) (p0 : Int32) (s0 : Int) (p1 : Int32) (s1 : Int) (p2 : Int32) (s2 : Int) (p3 : Int32) (s3 : Int) (e0 : p0.toInt = s0) (e1 : p1.toInt = s1) (h1 : (-39996) ≤ s1 ∧ s1 ≤ 39996) (e2 : p2.toInt = s2) (h2 : 0 ≤ s2 ∧ s2 ≤ 1299) (e3 : p3.toInt = s3) (h3 : 0 ≤ s3 ∧ s3 ≤ 300) (xb0 : (-9999 ≤ (G 6 13).toInt ∧ (G 6 13).toInt ≤ 9999 ∧ -19998 ≤ (G 6 14).toInt ∧ (G 6 14).toInt ≤ 19998)) (hI : xI G) (sz : Nat) : Ki l yX5_swingsTooFar wsX5_swingsTooFar 1 40 0 0 D [.ref (a 6), .int p0, .int p1, .int p2, .int p3] (xW K a G) (tK K) sz (fun (r : Int32) (G' : gS) => (xI G') ∧ (gu_un xcd [614, 615, 617, 619] G G') ∧ (0 ≤ r.toInt ∧ r.toInt ≤ 1) ∧ ((∀ Q S : gS, (Q 0 2 = (G 18) 2 ∧ Q 0 7 = (G 18) 7 ∧ Q 3 5 = p3) → swR S (G 6 13) (G 6 14) (G 6 18) (G 6 16) 0 → swR (psJ Q p1 p2 (s0).toNat S) (G' 6 13) (G' 6 14) (G' 6 18) (G' 6 16) (Int32.ofInt r.toInt))) ∧ ((r.toInt ≠ 0 ∨ (-9999 ≤ (G' 6 13).toInt ∧ (G' 6 13).toInt ≤ 9999 ∧ -19998 ≤ (G' 6 14).toInt ∧ (G' 6 14).toInt ≤ 19998)))) (fun (G' : gS) => (xW K a G')) (fun _ => (tK K)) := by
  unfold Ki
  refine g_ofW (cc := cX5_swingsTooFar) (lv := [(0, .ref (a 6)), (1, .int p0), (2, .int p1), (3, .int p2), (4, .int p3)]) (by decide) rfl (Nat.le_of_ble_eq_true rfl) rfl ?_
  intro p e s m args below meth c A Q hA hQ F hr hnm
  have hts := F.2.2.2.2.1
  have w_0 : (Cond.fieldLink RX5 131 "QuietCut$Lathe" "x" "I").before args s = true := hts _ (List.mem_of_getElem? (i := 7) rfl)
  have i_X5 : ∀ w ∈ u_ws RX5 TX5 20, w ∈ wsX5_swingsTooFar := fun _ h => List.mem_cons_of_mem _ (List.mem_append_left _ (List.mem_append_right _ h))
  have w_1 : (Cond.fieldLink RX5 134 "QuietCut$Lathe" "v" "I").before args s = true := hts _ (List.mem_of_getElem? (i := 8) rfl)
  have w_2 : (Cond.fieldLink RX5 143 "QuietCut$Lathe" "farthest" "I").before args s = true := hts _ (List.mem_of_getElem? (i := 9) rfl)
  have w_3 : (Cond.fieldLink RX5 137 "QuietCut$Lathe" "time" "I").before args s = true := hts _ (List.mem_of_getElem? (i := 10) rfl)
  have w_4 : (Cond.fieldLink RX5 29 "QuietCut$Lathe" "shop" "LQuietCut$Shop;").before args s = true := hts _ (List.mem_of_getElem? (i := 1) rfl)
  have w_5 : (Cond.fieldLink RX5 56 "QuietCut$Shop" "numbers" "[I").before args s = true := hts _ (List.mem_of_getElem? (i := 2) rfl)
  have i_X7 : ∀ w ∈ u_ws RX7 TX7 4, w ∈ wsX5_swingsTooFar := fun _ h => List.mem_cons_of_mem _ (List.mem_append_right _ h)
  have w_6 : (Cond.methodLink RX5 146 Lib.Math.max.name).before args s = true := hts _ (List.mem_of_getElem? (i := 3) rfl)
  have w_7 : (Cond.static Lib.Math.max.name).before args s = true := hts _ (List.mem_of_getElem? (i := 4) rfl)
  have w_8 : (Cond.initialized "java/lang/Math").before args s = true := hts _ (List.mem_of_getElem? (i := 5) rfl)
  have w_9 : (Cond.code Lib.Math.max.name Lib.Math.max.code 2 (some .int)).before args s = true := hts _ (List.mem_of_getElem? (i := 6) rfl)
  have rg0 : -2147483648 ≤ s0 ∧ s0 ≤ 2147483647 := e0 ▸ ti_rng p0
  have b1 : (1 : Int) ≤ (G 18 2).toInt ∧ (G 18 2).toInt ≤ 99 := hI 18 2
  have b2 : (1 : Int) ≤ (G 18 7).toInt ∧ (G 18 7).toInt ≤ 9999 := hI 18 7
  have J_51 : ∀ (fuel : Nat) (x51_7 : Int32) (x51_8 : Int32) (x51_9 : Int32) (x51_10 : Int32) (x51_11 : Int32), (2147483647 - x51_11.toInt).toNat < fuel → (0 ≤ x51_10.toInt ∧ x51_10.toInt ≤ 1) → (0 ≤ x51_11.toInt ∧ x51_11.toInt ≤ 2147483647) → (∀ Q S : gS, (Q 0 2 = G 18 2 ∧ Q 0 7 = G 18 7 ∧ Q 3 5 = p3) → swR S (G 6 13) (G 6 14) (G 6 18) (G 6 16) 0 → swR (psJ Q p1 p2 (x51_11.toInt).toNat S) x51_7 x51_8 x51_9 (G 6 16 + Int32.ofInt (x51_11.toInt)) x51_10) → ((x51_10.toInt ≠ 0 ∨ (-9999 ≤ x51_7.toInt ∧ x51_7.toInt ≤ 9999 ∧ -19998 ≤ x51_8.toInt ∧ x51_8.toInt ≤ 19998))) → ((x51_11.toInt ≤ s0 ∨ x51_11.toInt ≤ 0)) → gG p l e (gR 1 0 0 40) s m args below meth c D A 13 Q 0 0 (xW K a G) (tK K) [(0, .ref (a 6)), (1, .int p0), (2, .int p1), (3, .int p2), (4, .int p3), (5, .int (G 18 2)), (6, .int (G 18 7)), (7, .int x51_7), (8, .int x51_8), (9, .int x51_9), (10, .int x51_10), (11, .int x51_11)] 51 [] := by
    intro fuel
    induction fuel with
    | zero => intro x51_7 x51_8 x51_9 x51_10 x51_11 hm; exact absurd hm (Nat.not_lt_zero _)
    | succ fuel_51 ih_51 =>
      intro x51_7 x51_8 x51_9 x51_10 x51_11 hm_51 h51_10 h51_11 sj xb dn
      refine g_iload F 11 dX5_swingsTooFar_51 rfl ?_
      refine g_iload_n F 1 dX5_swingsTooFar_53 rfl rfl ?_
      have b3 := ti_rng x51_11
      refine v_icmp_ge F 140 dX5_swingsTooFar_54 (by decide) x51_11.toInt s0 rfl e0 (fun c4 => ?_) (fun c4 => ?_)
      · refine g_aload_n F 0 dX5_swingsTooFar_140 rfl rfl ?_
        refine g_iload F 7 dX5_swingsTooFar_141 rfl ?_
        refine xp_6_13 F i_X5 w_0 dX5_swingsTooFar_143 ?_
        refine g_aload_n F 0 dX5_swingsTooFar_146 rfl rfl ?_
        refine g_iload F 8 dX5_swingsTooFar_147 rfl ?_
        refine xp_6_14 F i_X5 w_1 dX5_swingsTooFar_149 ?_
        refine g_aload_n F 0 dX5_swingsTooFar_152 rfl rfl ?_
        refine g_iload F 9 dX5_swingsTooFar_153 rfl ?_
        refine xp_6_18 F i_X5 w_2 dX5_swingsTooFar_155 ?_
        refine g_aload_n F 0 dX5_swingsTooFar_158 rfl rfl ?_
        refine g_dup F dX5_swingsTooFar_159 rfl ?_
        refine xg_6_16 F i_X5 w_3 dX5_swingsTooFar_160 (G 6 16) (rfl) ?_
        refine g_iload F 11 dX5_swingsTooFar_163 rfl ?_
        refine g_iadd F dX5_swingsTooFar_165 ?_
        refine xp_6_16 F i_X5 w_3 dX5_swingsTooFar_166 ?_
        refine g_iload F 10 dX5_swingsTooFar_169 rfl ?_
        exact u_zret F hA hQ hr (ti_nar rfl (by omega) (by omega)) (gu_up (gu_up (gu_up (gu_up G 6 13 x51_7) 6 14 x51_8) 6 18 x51_9) 6 16 ((G 6 16) + x51_11)) (⟨(gu_I.up (j := 6) (k := 16) (v := ((G 6 16) + x51_11)) (gu_I.up (j := 6) (k := 18) (v := x51_9) (gu_I.up (j := 6) (k := 14) (v := x51_8) (gu_I.up (j := 6) (k := 13) (v := x51_7) hI (ti_rng _).1 (ti_rng _).2) (ti_rng _).1 (ti_rng _).2) (ti_rng _).1 (ti_rng _).2) (ti_rng _).1 (ti_rng _).2), (gu_un.up (j := 6) (k := 16) (v := ((G 6 16) + x51_11)) (gu_un.up (j := 6) (k := 18) (v := x51_9) (gu_un.up (j := 6) (k := 14) (v := x51_8) (gu_un.up (j := 6) (k := 13) (v := x51_7) gu_un.rf (show (614 : Nat) ∈ ([614, 615, 617, 619] : List Nat) by decide)) (show (615 : Nat) ∈ ([614, 615, 617, 619] : List Nat) by decide)) (show (619 : Nat) ∈ ([614, 615, 617, 619] : List Nat) by decide)) (show (617 : Nat) ∈ ([614, 615, 617, 619] : List Nat) by decide)), (by have h9 := ti_rng x51_10; omega), (fun Q S hq hs => by have h9 := swR.fin (n := x51_11.toInt) (m := s0) (sj Q S hq hs) (by omega) (by omega) (by omega); rw [Int32.ofInt_toInt] at h9 ⊢; exact h9), (by show (x51_10.toInt ≠ 0 ∨ (-9999 ≤ ((gu_up (gu_up (gu_up (gu_up G 6 13 x51_7) 6 14 x51_8) 6 18 x51_9) 6 16 ((G 6 16) + x51_11)) 6 13).toInt ∧ ((gu_up (gu_up (gu_up (gu_up G 6 13 x51_7) 6 14 x51_8) 6 18 x51_9) 6 16 ((G 6 16) + x51_11)) 6 13).toInt ≤ 9999 ∧ -19998 ≤ ((gu_up (gu_up (gu_up (gu_up G 6 13 x51_7) 6 14 x51_8) 6 18 x51_9) 6 16 ((G 6 16) + x51_11)) 6 14).toInt ∧ ((gu_up (gu_up (gu_up (gu_up G 6 13 x51_7) 6 14 x51_8) 6 18 x51_9) 6 16 ((G 6 16) + x51_11)) 6 14).toInt ≤ 19998)); have e9_6_13 : (gu_up (gu_up (gu_up (gu_up G 6 13 x51_7) 6 14 x51_8) 6 18 x51_9) 6 16 ((G 6 16) + x51_11)) 6 13 = x51_7 := rfl; have e9_6_14 : (gu_up (gu_up (gu_up (gu_up G 6 13 x51_7) 6 14 x51_8) 6 18 x51_9) 6 16 ((G 6 16) + x51_11)) 6 14 = x51_8 := rfl; (try simp only [e9_6_13, e9_6_14, true_and, and_true]) <;> (first | omega | (simp only [Int32.reduceToInt, true_and, and_true, ne_eq, not_true_eq_false, false_and, or_false, false_or, true_or, or_true, false_implies] <;> omega)))⟩) rfl rfl dX5_swingsTooFar_171
      · refine g_iload F 10 dX5_swingsTooFar_57 rfl ?_
        refine v_if_ne F 140 dX5_swingsTooFar_59 (by decide) x51_10.toInt rfl (fun c5 => ?_) (fun c5 => ?_)
        · refine g_aload_n F 0 dX5_swingsTooFar_140 rfl rfl ?_
          refine g_iload F 7 dX5_swingsTooFar_141 rfl ?_
          refine xp_6_13 F i_X5 w_0 dX5_swingsTooFar_143 ?_
          refine g_aload_n F 0 dX5_swingsTooFar_146 rfl rfl ?_
          refine g_iload F 8 dX5_swingsTooFar_147 rfl ?_
          refine xp_6_14 F i_X5 w_1 dX5_swingsTooFar_149 ?_
          refine g_aload_n F 0 dX5_swingsTooFar_152 rfl rfl ?_
          refine g_iload F 9 dX5_swingsTooFar_153 rfl ?_
          refine xp_6_18 F i_X5 w_2 dX5_swingsTooFar_155 ?_
          refine g_aload_n F 0 dX5_swingsTooFar_158 rfl rfl ?_
          refine g_dup F dX5_swingsTooFar_159 rfl ?_
          refine xg_6_16 F i_X5 w_3 dX5_swingsTooFar_160 (G 6 16) (rfl) ?_
          refine g_iload F 11 dX5_swingsTooFar_163 rfl ?_
          refine g_iadd F dX5_swingsTooFar_165 ?_
          refine xp_6_16 F i_X5 w_3 dX5_swingsTooFar_166 ?_
          refine g_iload F 10 dX5_swingsTooFar_169 rfl ?_
          exact u_zret F hA hQ hr (ti_nar rfl (by omega) (by omega)) (gu_up (gu_up (gu_up (gu_up G 6 13 x51_7) 6 14 x51_8) 6 18 x51_9) 6 16 ((G 6 16) + x51_11)) (⟨(gu_I.up (j := 6) (k := 16) (v := ((G 6 16) + x51_11)) (gu_I.up (j := 6) (k := 18) (v := x51_9) (gu_I.up (j := 6) (k := 14) (v := x51_8) (gu_I.up (j := 6) (k := 13) (v := x51_7) hI (ti_rng _).1 (ti_rng _).2) (ti_rng _).1 (ti_rng _).2) (ti_rng _).1 (ti_rng _).2) (ti_rng _).1 (ti_rng _).2), (gu_un.up (j := 6) (k := 16) (v := ((G 6 16) + x51_11)) (gu_un.up (j := 6) (k := 18) (v := x51_9) (gu_un.up (j := 6) (k := 14) (v := x51_8) (gu_un.up (j := 6) (k := 13) (v := x51_7) gu_un.rf (show (614 : Nat) ∈ ([614, 615, 617, 619] : List Nat) by decide)) (show (615 : Nat) ∈ ([614, 615, 617, 619] : List Nat) by decide)) (show (619 : Nat) ∈ ([614, 615, 617, 619] : List Nat) by decide)) (show (617 : Nat) ∈ ([614, 615, 617, 619] : List Nat) by decide)), (by have h9 := ti_rng x51_10; omega), (fun Q S hq hs => by have h9 := swR.fin (n := x51_11.toInt) (m := s0) (sj Q S hq hs) (by omega) (by omega) (by omega); rw [Int32.ofInt_toInt] at h9 ⊢; exact h9), (by show (x51_10.toInt ≠ 0 ∨ (-9999 ≤ ((gu_up (gu_up (gu_up (gu_up G 6 13 x51_7) 6 14 x51_8) 6 18 x51_9) 6 16 ((G 6 16) + x51_11)) 6 13).toInt ∧ ((gu_up (gu_up (gu_up (gu_up G 6 13 x51_7) 6 14 x51_8) 6 18 x51_9) 6 16 ((G 6 16) + x51_11)) 6 13).toInt ≤ 9999 ∧ -19998 ≤ ((gu_up (gu_up (gu_up (gu_up G 6 13 x51_7) 6 14 x51_8) 6 18 x51_9) 6 16 ((G 6 16) + x51_11)) 6 14).toInt ∧ ((gu_up (gu_up (gu_up (gu_up G 6 13 x51_7) 6 14 x51_8) 6 18 x51_9) 6 16 ((G 6 16) + x51_11)) 6 14).toInt ≤ 19998)); have e9_6_13 : (gu_up (gu_up (gu_up (gu_up G 6 13 x51_7) 6 14 x51_8) 6 18 x51_9) 6 16 ((G 6 16) + x51_11)) 6 13 = x51_7 := rfl; have e9_6_14 : (gu_up (gu_up (gu_up (gu_up G 6 13 x51_7) 6 14 x51_8) 6 18 x51_9) 6 16 ((G 6 16) + x51_11)) 6 14 = x51_8 := rfl; (try simp only [e9_6_13, e9_6_14, true_and, and_true]) <;> (first | omega | (simp only [Int32.reduceToInt, true_and, and_true, ne_eq, not_true_eq_false, false_and, or_false, false_or, true_or, or_true, false_implies] <;> omega)))⟩) rfl rfl dX5_swingsTooFar_171
        · refine g_iload F 8 dX5_swingsTooFar_62 rfl ?_
          refine g_iload_n F 2 dX5_swingsTooFar_64 rfl rfl ?_
          refine g_iload_n F 3 dX5_swingsTooFar_65 rfl rfl ?_
          refine g_iload F 7 dX5_swingsTooFar_66 rfl ?_
          refine g_imul F dX5_swingsTooFar_68 ?_
          refine g_isub F dX5_swingsTooFar_69 ?_
          refine g_iload F 4 dX5_swingsTooFar_70 rfl ?_
          refine g_iload F 8 dX5_swingsTooFar_72 rfl ?_
          refine g_imul F dX5_swingsTooFar_74 ?_
          refine g_isub F dX5_swingsTooFar_75 ?_
          refine g_iload F 5 dX5_swingsTooFar_76 rfl ?_
          refine g_idiv F dX5_swingsTooFar_78 (ti_ne0 rfl (by omega)) ?_
          refine g_iadd F dX5_swingsTooFar_79 ?_
          have vb : -19100000 ≤ ((x51_8 + (((p1 - (p2 * x51_7)) - (p3 * x51_8)) / (G 18 2))) : Int32).toInt ∧ ((x51_8 + (((p1 - (p2 * x51_7)) - (p3 * x51_8)) / (G 18 2))) : Int32).toInt ≤ 19100000 := psV_bd (by omega) (by omega) (by omega) (by omega) (by omega)
          refine g_istore F [(8, .int (x51_8 + (((p1 - (p2 * x51_7)) - (p3 * x51_8)) / (G 18 2)))), (0, .ref (a 6)), (1, .int p0), (2, .int p1), (3, .int p2), (4, .int p3), (5, .int (G 18 2)), (6, .int (G 18 7)), (7, .int x51_7), (9, .int x51_9), (10, .int x51_10), (11, .int x51_11)] dX5_swingsTooFar_80 (by decide) rfl ?_
          refine g_iload F 8 dX5_swingsTooFar_82 rfl ?_
          refine g_iload F 0 dX5_swingsTooFar_84 rfl ?_
          refine g_iadd F dX5_swingsTooFar_86 ?_
          have xb2 : ((x51_7 + (x51_8 + (((p1 - (p2 * x51_7)) - (p3 * x51_8)) / (G 18 2)))) : Int32).toInt = x51_7.toInt + ((x51_8 + (((p1 - (p2 * x51_7)) - (p3 * x51_8)) / (G 18 2))) : Int32).toInt := ti_add rfl rfl (by omega) (by omega)
          refine g_istore F [(7, .int (x51_7 + (x51_8 + (((p1 - (p2 * x51_7)) - (p3 * x51_8)) / (G 18 2))))), (8, .int (x51_8 + (((p1 - (p2 * x51_7)) - (p3 * x51_8)) / (G 18 2)))), (0, .ref (a 6)), (1, .int p0), (2, .int p1), (3, .int p2), (4, .int p3), (5, .int (G 18 2)), (6, .int (G 18 7)), (9, .int x51_9), (10, .int x51_10), (11, .int x51_11)] dX5_swingsTooFar_87 (by decide) rfl ?_
          refine u_iinc F (fun v_ => [(11, .int v_), (7, .int (x51_7 + (x51_8 + (((p1 - (p2 * x51_7)) - (p3 * x51_8)) / (G 18 2))))), (8, .int (x51_8 + (((p1 - (p2 * x51_7)) - (p3 * x51_8)) / (G 18 2)))), (0, .ref (a 6)), (1, .int p0), (2, .int p1), (3, .int p2), (4, .int p3), (5, .int (G 18 2)), (6, .int (G 18 7)), (9, .int x51_9), (10, .int x51_10)]) dX5_swingsTooFar_89 (j := 11) rfl x51_11.toInt 1 rfl rfl (by omega) (by omega) (by decide) (fun _ => rfl) (fun y6 ey6 => ?_)
          refine g_iload F 1 dX5_swingsTooFar_92 rfl ?_
          refine v_if_ge F 103 dX5_swingsTooFar_94 (by decide) ((x51_7 + (x51_8 + (((p1 - (p2 * x51_7)) - (p3 * x51_8)) / (G 18 2)))) : Int32).toInt rfl (fun c7 => ?_) (fun c7 => ?_)
          · refine g_iload F 1 dX5_swingsTooFar_103 rfl ?_
            refine g_istore F [(12, .int (x51_7 + (x51_8 + (((p1 - (p2 * x51_7)) - (p3 * x51_8)) / (G 18 2))))), (11, .int y6), (7, .int (x51_7 + (x51_8 + (((p1 - (p2 * x51_7)) - (p3 * x51_8)) / (G 18 2))))), (8, .int (x51_8 + (((p1 - (p2 * x51_7)) - (p3 * x51_8)) / (G 18 2)))), (0, .ref (a 6)), (1, .int p0), (2, .int p1), (3, .int p2), (4, .int p3), (5, .int (G 18 2)), (6, .int (G 18 7)), (9, .int x51_9), (10, .int x51_10)] dX5_swingsTooFar_105 (by decide) rfl ?_
            refine g_iload F 0 dX5_swingsTooFar_107 rfl ?_
            refine g_iload F 11 dX5_swingsTooFar_109 rfl ?_
            have b8 := ti_rng x51_9
            refine v_icmp_le F 119 dX5_swingsTooFar_111 (by decide) ((x51_7 + (x51_8 + (((p1 - (p2 * x51_7)) - (p3 * x51_8)) / (G 18 2)))) : Int32).toInt x51_9.toInt rfl rfl (fun c9 => ?_) (fun c9 => ?_)
            · refine g_iload F 11 dX5_swingsTooFar_119 rfl ?_
              refine g_istore F [(9, .int x51_9), (12, .int (x51_7 + (x51_8 + (((p1 - (p2 * x51_7)) - (p3 * x51_8)) / (G 18 2))))), (11, .int y6), (7, .int (x51_7 + (x51_8 + (((p1 - (p2 * x51_7)) - (p3 * x51_8)) / (G 18 2))))), (8, .int (x51_8 + (((p1 - (p2 * x51_7)) - (p3 * x51_8)) / (G 18 2)))), (0, .ref (a 6)), (1, .int p0), (2, .int p1), (3, .int p2), (4, .int p3), (5, .int (G 18 2)), (6, .int (G 18 7)), (10, .int x51_10)] dX5_swingsTooFar_121 (by decide) rfl ?_
              refine g_iload F 1 dX5_swingsTooFar_123 rfl ?_
              refine g_iload F 11 dX5_swingsTooFar_125 rfl ?_
              refine v_icmp_le F 134 dX5_swingsTooFar_127 (by decide) ((x51_7 + (x51_8 + (((p1 - (p2 * x51_7)) - (p3 * x51_8)) / (G 18 2)))) : Int32).toInt (G 18 7).toInt rfl rfl (fun c10 => ?_) (fun c10 => ?_)
              · refine g_iconst F 0 dX5_swingsTooFar_134 (by decide) ?_
                refine g_istore F [(10, .int 0), (9, .int x51_9), (12, .int (x51_7 + (x51_8 + (((p1 - (p2 * x51_7)) - (p3 * x51_8)) / (G 18 2))))), (11, .int y6), (7, .int (x51_7 + (x51_8 + (((p1 - (p2 * x51_7)) - (p3 * x51_8)) / (G 18 2))))), (8, .int (x51_8 + (((p1 - (p2 * x51_7)) - (p3 * x51_8)) / (G 18 2)))), (0, .ref (a 6)), (1, .int p0), (2, .int p1), (3, .int p2), (4, .int p3), (5, .int (G 18 2)), (6, .int (G 18 7))] dX5_swingsTooFar_135 (by decide) rfl ?_
                refine g_goto F 51 dX5_swingsTooFar_137 (by decide) ?_
                refine g_locals [(0, .ref (a 6)), (1, .int p0), (2, .int p1), (3, .int p2), (4, .int p3), (5, .int (G 18 2)), (6, .int (G 18 7)), (7, .int (x51_7 + (x51_8 + (((p1 - (p2 * x51_7)) - (p3 * x51_8)) / (G 18 2))))), (8, .int (x51_8 + (((p1 - (p2 * x51_7)) - (p3 * x51_8)) / (G 18 2)))), (9, .int x51_9), (10, .int 0), (11, .int y6)] [6, 7, 8, 9, 10, 11, 12, 4, 5, 1, 0, 3] rfl ?_
                exact ih_51 (x51_7 + (x51_8 + (((p1 - (p2 * x51_7)) - (p3 * x51_8)) / (G 18 2)))) (x51_8 + (((p1 - (p2 * x51_7)) - (p3 * x51_8)) / (G 18 2))) x51_9 0 y6 (by omega) (by decide) (by have h9 := ti_rng y6; omega) (fun Q S hq hs => swR.step (n := (x51_11.toInt).toNat) (sj Q S hq hs) (by omega) (by rw [hq.1, hq.2.2]) rfl (by unfold psA; split <;> omega) (tm_1 (by omega)) (by rw [hq.2.1]; first | exact Or.inl ⟨rfl, by unfold psA; split <;> omega⟩ | exact Or.inr ⟨rfl, by unfold psA; split <;> omega⟩) (by omega)) (by (first | omega | (simp only [Int32.reduceToInt, true_and, and_true, ne_eq, not_true_eq_false, false_and, or_false, false_or, true_or, or_true, false_implies] <;> omega))) (by (first | omega | (simp only [Int32.reduceToInt, true_and, and_true, ne_eq, not_true_eq_false, false_and, or_false, false_or, true_or, or_true, false_implies] <;> omega)))
              · refine g_iconst F 1 dX5_swingsTooFar_130 (by decide) ?_
                refine g_goto F 135 dX5_swingsTooFar_131 (by decide) ?_
                refine g_istore F [(10, .int 1), (9, .int x51_9), (12, .int (x51_7 + (x51_8 + (((p1 - (p2 * x51_7)) - (p3 * x51_8)) / (G 18 2))))), (11, .int y6), (7, .int (x51_7 + (x51_8 + (((p1 - (p2 * x51_7)) - (p3 * x51_8)) / (G 18 2))))), (8, .int (x51_8 + (((p1 - (p2 * x51_7)) - (p3 * x51_8)) / (G 18 2)))), (0, .ref (a 6)), (1, .int p0), (2, .int p1), (3, .int p2), (4, .int p3), (5, .int (G 18 2)), (6, .int (G 18 7))] dX5_swingsTooFar_135 (by decide) rfl ?_
                refine g_goto F 51 dX5_swingsTooFar_137 (by decide) ?_
                refine g_locals [(0, .ref (a 6)), (1, .int p0), (2, .int p1), (3, .int p2), (4, .int p3), (5, .int (G 18 2)), (6, .int (G 18 7)), (7, .int (x51_7 + (x51_8 + (((p1 - (p2 * x51_7)) - (p3 * x51_8)) / (G 18 2))))), (8, .int (x51_8 + (((p1 - (p2 * x51_7)) - (p3 * x51_8)) / (G 18 2)))), (9, .int x51_9), (10, .int 1), (11, .int y6)] [6, 7, 8, 9, 10, 11, 12, 4, 5, 1, 0, 3] rfl ?_
                exact ih_51 (x51_7 + (x51_8 + (((p1 - (p2 * x51_7)) - (p3 * x51_8)) / (G 18 2)))) (x51_8 + (((p1 - (p2 * x51_7)) - (p3 * x51_8)) / (G 18 2))) x51_9 1 y6 (by omega) (by decide) (by have h9 := ti_rng y6; omega) (fun Q S hq hs => swR.step (n := (x51_11.toInt).toNat) (sj Q S hq hs) (by omega) (by rw [hq.1, hq.2.2]) rfl (by unfold psA; split <;> omega) (tm_1 (by omega)) (by rw [hq.2.1]; first | exact Or.inl ⟨rfl, by unfold psA; split <;> omega⟩ | exact Or.inr ⟨rfl, by unfold psA; split <;> omega⟩) (by omega)) (by (first | omega | (simp only [Int32.reduceToInt, true_and, and_true, ne_eq, not_true_eq_false, false_and, or_false, false_or, true_or, or_true, false_implies] <;> omega))) (by (first | omega | (simp only [Int32.reduceToInt, true_and, and_true, ne_eq, not_true_eq_false, false_and, or_false, false_or, true_or, or_true, false_implies] <;> omega)))
            · refine g_iload F 0 dX5_swingsTooFar_114 rfl ?_
              refine g_goto F 121 dX5_swingsTooFar_116 (by decide) ?_
              refine g_istore F [(9, .int (x51_7 + (x51_8 + (((p1 - (p2 * x51_7)) - (p3 * x51_8)) / (G 18 2))))), (12, .int (x51_7 + (x51_8 + (((p1 - (p2 * x51_7)) - (p3 * x51_8)) / (G 18 2))))), (11, .int y6), (7, .int (x51_7 + (x51_8 + (((p1 - (p2 * x51_7)) - (p3 * x51_8)) / (G 18 2))))), (8, .int (x51_8 + (((p1 - (p2 * x51_7)) - (p3 * x51_8)) / (G 18 2)))), (0, .ref (a 6)), (1, .int p0), (2, .int p1), (3, .int p2), (4, .int p3), (5, .int (G 18 2)), (6, .int (G 18 7)), (10, .int x51_10)] dX5_swingsTooFar_121 (by decide) rfl ?_
              refine g_iload F 1 dX5_swingsTooFar_123 rfl ?_
              refine g_iload F 11 dX5_swingsTooFar_125 rfl ?_
              refine v_icmp_le F 134 dX5_swingsTooFar_127 (by decide) ((x51_7 + (x51_8 + (((p1 - (p2 * x51_7)) - (p3 * x51_8)) / (G 18 2)))) : Int32).toInt (G 18 7).toInt rfl rfl (fun c11 => ?_) (fun c11 => ?_)
              · refine g_iconst F 0 dX5_swingsTooFar_134 (by decide) ?_
                refine g_istore F [(10, .int 0), (9, .int (x51_7 + (x51_8 + (((p1 - (p2 * x51_7)) - (p3 * x51_8)) / (G 18 2))))), (12, .int (x51_7 + (x51_8 + (((p1 - (p2 * x51_7)) - (p3 * x51_8)) / (G 18 2))))), (11, .int y6), (7, .int (x51_7 + (x51_8 + (((p1 - (p2 * x51_7)) - (p3 * x51_8)) / (G 18 2))))), (8, .int (x51_8 + (((p1 - (p2 * x51_7)) - (p3 * x51_8)) / (G 18 2)))), (0, .ref (a 6)), (1, .int p0), (2, .int p1), (3, .int p2), (4, .int p3), (5, .int (G 18 2)), (6, .int (G 18 7))] dX5_swingsTooFar_135 (by decide) rfl ?_
                refine g_goto F 51 dX5_swingsTooFar_137 (by decide) ?_
                refine g_locals [(0, .ref (a 6)), (1, .int p0), (2, .int p1), (3, .int p2), (4, .int p3), (5, .int (G 18 2)), (6, .int (G 18 7)), (7, .int (x51_7 + (x51_8 + (((p1 - (p2 * x51_7)) - (p3 * x51_8)) / (G 18 2))))), (8, .int (x51_8 + (((p1 - (p2 * x51_7)) - (p3 * x51_8)) / (G 18 2)))), (9, .int (x51_7 + (x51_8 + (((p1 - (p2 * x51_7)) - (p3 * x51_8)) / (G 18 2))))), (10, .int 0), (11, .int y6)] [6, 7, 8, 9, 10, 11, 12, 4, 5, 1, 0, 3] rfl ?_
                exact ih_51 (x51_7 + (x51_8 + (((p1 - (p2 * x51_7)) - (p3 * x51_8)) / (G 18 2)))) (x51_8 + (((p1 - (p2 * x51_7)) - (p3 * x51_8)) / (G 18 2))) (x51_7 + (x51_8 + (((p1 - (p2 * x51_7)) - (p3 * x51_8)) / (G 18 2)))) 0 y6 (by omega) (by decide) (by have h9 := ti_rng y6; omega) (fun Q S hq hs => swR.step (n := (x51_11.toInt).toNat) (sj Q S hq hs) (by omega) (by rw [hq.1, hq.2.2]) rfl (by unfold psA; split <;> omega) (tm_1 (by omega)) (by rw [hq.2.1]; first | exact Or.inl ⟨rfl, by unfold psA; split <;> omega⟩ | exact Or.inr ⟨rfl, by unfold psA; split <;> omega⟩) (by omega)) (by (first | omega | (simp only [Int32.reduceToInt, true_and, and_true, ne_eq, not_true_eq_false, false_and, or_false, false_or, true_or, or_true, false_implies] <;> omega))) (by (first | omega | (simp only [Int32.reduceToInt, true_and, and_true, ne_eq, not_true_eq_false, false_and, or_false, false_or, true_or, or_true, false_implies] <;> omega)))
              · refine g_iconst F 1 dX5_swingsTooFar_130 (by decide) ?_
                refine g_goto F 135 dX5_swingsTooFar_131 (by decide) ?_
                refine g_istore F [(10, .int 1), (9, .int (x51_7 + (x51_8 + (((p1 - (p2 * x51_7)) - (p3 * x51_8)) / (G 18 2))))), (12, .int (x51_7 + (x51_8 + (((p1 - (p2 * x51_7)) - (p3 * x51_8)) / (G 18 2))))), (11, .int y6), (7, .int (x51_7 + (x51_8 + (((p1 - (p2 * x51_7)) - (p3 * x51_8)) / (G 18 2))))), (8, .int (x51_8 + (((p1 - (p2 * x51_7)) - (p3 * x51_8)) / (G 18 2)))), (0, .ref (a 6)), (1, .int p0), (2, .int p1), (3, .int p2), (4, .int p3), (5, .int (G 18 2)), (6, .int (G 18 7))] dX5_swingsTooFar_135 (by decide) rfl ?_
                refine g_goto F 51 dX5_swingsTooFar_137 (by decide) ?_
                refine g_locals [(0, .ref (a 6)), (1, .int p0), (2, .int p1), (3, .int p2), (4, .int p3), (5, .int (G 18 2)), (6, .int (G 18 7)), (7, .int (x51_7 + (x51_8 + (((p1 - (p2 * x51_7)) - (p3 * x51_8)) / (G 18 2))))), (8, .int (x51_8 + (((p1 - (p2 * x51_7)) - (p3 * x51_8)) / (G 18 2)))), (9, .int (x51_7 + (x51_8 + (((p1 - (p2 * x51_7)) - (p3 * x51_8)) / (G 18 2))))), (10, .int 1), (11, .int y6)] [6, 7, 8, 9, 10, 11, 12, 4, 5, 1, 0, 3] rfl ?_
                exact ih_51 (x51_7 + (x51_8 + (((p1 - (p2 * x51_7)) - (p3 * x51_8)) / (G 18 2)))) (x51_8 + (((p1 - (p2 * x51_7)) - (p3 * x51_8)) / (G 18 2))) (x51_7 + (x51_8 + (((p1 - (p2 * x51_7)) - (p3 * x51_8)) / (G 18 2)))) 1 y6 (by omega) (by decide) (by have h9 := ti_rng y6; omega) (fun Q S hq hs => swR.step (n := (x51_11.toInt).toNat) (sj Q S hq hs) (by omega) (by rw [hq.1, hq.2.2]) rfl (by unfold psA; split <;> omega) (tm_1 (by omega)) (by rw [hq.2.1]; first | exact Or.inl ⟨rfl, by unfold psA; split <;> omega⟩ | exact Or.inr ⟨rfl, by unfold psA; split <;> omega⟩) (by omega)) (by (first | omega | (simp only [Int32.reduceToInt, true_and, and_true, ne_eq, not_true_eq_false, false_and, or_false, false_or, true_or, or_true, false_implies] <;> omega))) (by (first | omega | (simp only [Int32.reduceToInt, true_and, and_true, ne_eq, not_true_eq_false, false_and, or_false, false_or, true_or, or_true, false_implies] <;> omega)))
          · refine g_iload F 1 dX5_swingsTooFar_97 rfl ?_
            refine u_ineg F dX5_swingsTooFar_99 ((x51_7 + (x51_8 + (((p1 - (p2 * x51_7)) - (p3 * x51_8)) / (G 18 2)))) : Int32).toInt rfl (by omega) (fun y12 ey12 => ?_)
            refine g_goto F 105 dX5_swingsTooFar_100 (by decide) ?_
            refine g_istore F [(12, .int y12), (11, .int y6), (7, .int (x51_7 + (x51_8 + (((p1 - (p2 * x51_7)) - (p3 * x51_8)) / (G 18 2))))), (8, .int (x51_8 + (((p1 - (p2 * x51_7)) - (p3 * x51_8)) / (G 18 2)))), (0, .ref (a 6)), (1, .int p0), (2, .int p1), (3, .int p2), (4, .int p3), (5, .int (G 18 2)), (6, .int (G 18 7)), (9, .int x51_9), (10, .int x51_10)] dX5_swingsTooFar_105 (by decide) rfl ?_
            refine g_iload F 0 dX5_swingsTooFar_107 rfl ?_
            refine g_iload F 11 dX5_swingsTooFar_109 rfl ?_
            have b13 := ti_rng x51_9
            refine v_icmp_le F 119 dX5_swingsTooFar_111 (by decide) y12.toInt x51_9.toInt rfl rfl (fun c14 => ?_) (fun c14 => ?_)
            · refine g_iload F 11 dX5_swingsTooFar_119 rfl ?_
              refine g_istore F [(9, .int x51_9), (12, .int y12), (11, .int y6), (7, .int (x51_7 + (x51_8 + (((p1 - (p2 * x51_7)) - (p3 * x51_8)) / (G 18 2))))), (8, .int (x51_8 + (((p1 - (p2 * x51_7)) - (p3 * x51_8)) / (G 18 2)))), (0, .ref (a 6)), (1, .int p0), (2, .int p1), (3, .int p2), (4, .int p3), (5, .int (G 18 2)), (6, .int (G 18 7)), (10, .int x51_10)] dX5_swingsTooFar_121 (by decide) rfl ?_
              refine g_iload F 1 dX5_swingsTooFar_123 rfl ?_
              refine g_iload F 11 dX5_swingsTooFar_125 rfl ?_
              refine v_icmp_le F 134 dX5_swingsTooFar_127 (by decide) y12.toInt (G 18 7).toInt rfl rfl (fun c15 => ?_) (fun c15 => ?_)
              · refine g_iconst F 0 dX5_swingsTooFar_134 (by decide) ?_
                refine g_istore F [(10, .int 0), (9, .int x51_9), (12, .int y12), (11, .int y6), (7, .int (x51_7 + (x51_8 + (((p1 - (p2 * x51_7)) - (p3 * x51_8)) / (G 18 2))))), (8, .int (x51_8 + (((p1 - (p2 * x51_7)) - (p3 * x51_8)) / (G 18 2)))), (0, .ref (a 6)), (1, .int p0), (2, .int p1), (3, .int p2), (4, .int p3), (5, .int (G 18 2)), (6, .int (G 18 7))] dX5_swingsTooFar_135 (by decide) rfl ?_
                refine g_goto F 51 dX5_swingsTooFar_137 (by decide) ?_
                refine g_locals [(0, .ref (a 6)), (1, .int p0), (2, .int p1), (3, .int p2), (4, .int p3), (5, .int (G 18 2)), (6, .int (G 18 7)), (7, .int (x51_7 + (x51_8 + (((p1 - (p2 * x51_7)) - (p3 * x51_8)) / (G 18 2))))), (8, .int (x51_8 + (((p1 - (p2 * x51_7)) - (p3 * x51_8)) / (G 18 2)))), (9, .int x51_9), (10, .int 0), (11, .int y6)] [6, 7, 8, 9, 10, 11, 12, 4, 5, 1, 0, 3] rfl ?_
                exact ih_51 (x51_7 + (x51_8 + (((p1 - (p2 * x51_7)) - (p3 * x51_8)) / (G 18 2)))) (x51_8 + (((p1 - (p2 * x51_7)) - (p3 * x51_8)) / (G 18 2))) x51_9 0 y6 (by omega) (by decide) (by have h9 := ti_rng y6; omega) (fun Q S hq hs => swR.step (n := (x51_11.toInt).toNat) (sj Q S hq hs) (by omega) (by rw [hq.1, hq.2.2]) rfl (by unfold psA; split <;> omega) (tm_1 (by omega)) (by rw [hq.2.1]; first | exact Or.inl ⟨rfl, by unfold psA; split <;> omega⟩ | exact Or.inr ⟨rfl, by unfold psA; split <;> omega⟩) (by omega)) (by (first | omega | (simp only [Int32.reduceToInt, true_and, and_true, ne_eq, not_true_eq_false, false_and, or_false, false_or, true_or, or_true, false_implies] <;> omega))) (by (first | omega | (simp only [Int32.reduceToInt, true_and, and_true, ne_eq, not_true_eq_false, false_and, or_false, false_or, true_or, or_true, false_implies] <;> omega)))
              · refine g_iconst F 1 dX5_swingsTooFar_130 (by decide) ?_
                refine g_goto F 135 dX5_swingsTooFar_131 (by decide) ?_
                refine g_istore F [(10, .int 1), (9, .int x51_9), (12, .int y12), (11, .int y6), (7, .int (x51_7 + (x51_8 + (((p1 - (p2 * x51_7)) - (p3 * x51_8)) / (G 18 2))))), (8, .int (x51_8 + (((p1 - (p2 * x51_7)) - (p3 * x51_8)) / (G 18 2)))), (0, .ref (a 6)), (1, .int p0), (2, .int p1), (3, .int p2), (4, .int p3), (5, .int (G 18 2)), (6, .int (G 18 7))] dX5_swingsTooFar_135 (by decide) rfl ?_
                refine g_goto F 51 dX5_swingsTooFar_137 (by decide) ?_
                refine g_locals [(0, .ref (a 6)), (1, .int p0), (2, .int p1), (3, .int p2), (4, .int p3), (5, .int (G 18 2)), (6, .int (G 18 7)), (7, .int (x51_7 + (x51_8 + (((p1 - (p2 * x51_7)) - (p3 * x51_8)) / (G 18 2))))), (8, .int (x51_8 + (((p1 - (p2 * x51_7)) - (p3 * x51_8)) / (G 18 2)))), (9, .int x51_9), (10, .int 1), (11, .int y6)] [6, 7, 8, 9, 10, 11, 12, 4, 5, 1, 0, 3] rfl ?_
                exact ih_51 (x51_7 + (x51_8 + (((p1 - (p2 * x51_7)) - (p3 * x51_8)) / (G 18 2)))) (x51_8 + (((p1 - (p2 * x51_7)) - (p3 * x51_8)) / (G 18 2))) x51_9 1 y6 (by omega) (by decide) (by have h9 := ti_rng y6; omega) (fun Q S hq hs => swR.step (n := (x51_11.toInt).toNat) (sj Q S hq hs) (by omega) (by rw [hq.1, hq.2.2]) rfl (by unfold psA; split <;> omega) (tm_1 (by omega)) (by rw [hq.2.1]; first | exact Or.inl ⟨rfl, by unfold psA; split <;> omega⟩ | exact Or.inr ⟨rfl, by unfold psA; split <;> omega⟩) (by omega)) (by (first | omega | (simp only [Int32.reduceToInt, true_and, and_true, ne_eq, not_true_eq_false, false_and, or_false, false_or, true_or, or_true, false_implies] <;> omega))) (by (first | omega | (simp only [Int32.reduceToInt, true_and, and_true, ne_eq, not_true_eq_false, false_and, or_false, false_or, true_or, or_true, false_implies] <;> omega)))
            · refine g_iload F 0 dX5_swingsTooFar_114 rfl ?_
              refine g_goto F 121 dX5_swingsTooFar_116 (by decide) ?_
              refine g_istore F [(9, .int y12), (12, .int y12), (11, .int y6), (7, .int (x51_7 + (x51_8 + (((p1 - (p2 * x51_7)) - (p3 * x51_8)) / (G 18 2))))), (8, .int (x51_8 + (((p1 - (p2 * x51_7)) - (p3 * x51_8)) / (G 18 2)))), (0, .ref (a 6)), (1, .int p0), (2, .int p1), (3, .int p2), (4, .int p3), (5, .int (G 18 2)), (6, .int (G 18 7)), (10, .int x51_10)] dX5_swingsTooFar_121 (by decide) rfl ?_
              refine g_iload F 1 dX5_swingsTooFar_123 rfl ?_
              refine g_iload F 11 dX5_swingsTooFar_125 rfl ?_
              refine v_icmp_le F 134 dX5_swingsTooFar_127 (by decide) y12.toInt (G 18 7).toInt rfl rfl (fun c16 => ?_) (fun c16 => ?_)
              · refine g_iconst F 0 dX5_swingsTooFar_134 (by decide) ?_
                refine g_istore F [(10, .int 0), (9, .int y12), (12, .int y12), (11, .int y6), (7, .int (x51_7 + (x51_8 + (((p1 - (p2 * x51_7)) - (p3 * x51_8)) / (G 18 2))))), (8, .int (x51_8 + (((p1 - (p2 * x51_7)) - (p3 * x51_8)) / (G 18 2)))), (0, .ref (a 6)), (1, .int p0), (2, .int p1), (3, .int p2), (4, .int p3), (5, .int (G 18 2)), (6, .int (G 18 7))] dX5_swingsTooFar_135 (by decide) rfl ?_
                refine g_goto F 51 dX5_swingsTooFar_137 (by decide) ?_
                refine g_locals [(0, .ref (a 6)), (1, .int p0), (2, .int p1), (3, .int p2), (4, .int p3), (5, .int (G 18 2)), (6, .int (G 18 7)), (7, .int (x51_7 + (x51_8 + (((p1 - (p2 * x51_7)) - (p3 * x51_8)) / (G 18 2))))), (8, .int (x51_8 + (((p1 - (p2 * x51_7)) - (p3 * x51_8)) / (G 18 2)))), (9, .int y12), (10, .int 0), (11, .int y6)] [6, 7, 8, 9, 10, 11, 12, 4, 5, 1, 0, 3] rfl ?_
                exact ih_51 (x51_7 + (x51_8 + (((p1 - (p2 * x51_7)) - (p3 * x51_8)) / (G 18 2)))) (x51_8 + (((p1 - (p2 * x51_7)) - (p3 * x51_8)) / (G 18 2))) y12 0 y6 (by omega) (by decide) (by have h9 := ti_rng y6; omega) (fun Q S hq hs => swR.step (n := (x51_11.toInt).toNat) (sj Q S hq hs) (by omega) (by rw [hq.1, hq.2.2]) rfl (by unfold psA; split <;> omega) (tm_1 (by omega)) (by rw [hq.2.1]; first | exact Or.inl ⟨rfl, by unfold psA; split <;> omega⟩ | exact Or.inr ⟨rfl, by unfold psA; split <;> omega⟩) (by omega)) (by (first | omega | (simp only [Int32.reduceToInt, true_and, and_true, ne_eq, not_true_eq_false, false_and, or_false, false_or, true_or, or_true, false_implies] <;> omega))) (by (first | omega | (simp only [Int32.reduceToInt, true_and, and_true, ne_eq, not_true_eq_false, false_and, or_false, false_or, true_or, or_true, false_implies] <;> omega)))
              · refine g_iconst F 1 dX5_swingsTooFar_130 (by decide) ?_
                refine g_goto F 135 dX5_swingsTooFar_131 (by decide) ?_
                refine g_istore F [(10, .int 1), (9, .int y12), (12, .int y12), (11, .int y6), (7, .int (x51_7 + (x51_8 + (((p1 - (p2 * x51_7)) - (p3 * x51_8)) / (G 18 2))))), (8, .int (x51_8 + (((p1 - (p2 * x51_7)) - (p3 * x51_8)) / (G 18 2)))), (0, .ref (a 6)), (1, .int p0), (2, .int p1), (3, .int p2), (4, .int p3), (5, .int (G 18 2)), (6, .int (G 18 7))] dX5_swingsTooFar_135 (by decide) rfl ?_
                refine g_goto F 51 dX5_swingsTooFar_137 (by decide) ?_
                refine g_locals [(0, .ref (a 6)), (1, .int p0), (2, .int p1), (3, .int p2), (4, .int p3), (5, .int (G 18 2)), (6, .int (G 18 7)), (7, .int (x51_7 + (x51_8 + (((p1 - (p2 * x51_7)) - (p3 * x51_8)) / (G 18 2))))), (8, .int (x51_8 + (((p1 - (p2 * x51_7)) - (p3 * x51_8)) / (G 18 2)))), (9, .int y12), (10, .int 1), (11, .int y6)] [6, 7, 8, 9, 10, 11, 12, 4, 5, 1, 0, 3] rfl ?_
                exact ih_51 (x51_7 + (x51_8 + (((p1 - (p2 * x51_7)) - (p3 * x51_8)) / (G 18 2)))) (x51_8 + (((p1 - (p2 * x51_7)) - (p3 * x51_8)) / (G 18 2))) y12 1 y6 (by omega) (by decide) (by have h9 := ti_rng y6; omega) (fun Q S hq hs => swR.step (n := (x51_11.toInt).toNat) (sj Q S hq hs) (by omega) (by rw [hq.1, hq.2.2]) rfl (by unfold psA; split <;> omega) (tm_1 (by omega)) (by rw [hq.2.1]; first | exact Or.inl ⟨rfl, by unfold psA; split <;> omega⟩ | exact Or.inr ⟨rfl, by unfold psA; split <;> omega⟩) (by omega)) (by (first | omega | (simp only [Int32.reduceToInt, true_and, and_true, ne_eq, not_true_eq_false, false_and, or_false, false_or, true_or, or_true, false_implies] <;> omega))) (by (first | omega | (simp only [Int32.reduceToInt, true_and, and_true, ne_eq, not_true_eq_false, false_and, or_false, false_or, true_or, or_true, false_implies] <;> omega)))
  refine g_iconst F 1 dX5_swingsTooFar_0 (by decide) ?_
  refine g_aload_n F 0 dX5_swingsTooFar_1 rfl rfl ?_
  refine xg_6_0 F i_X5 w_4 dX5_swingsTooFar_2 ?_
  refine xg_2_0 F i_X7 w_5 dX5_swingsTooFar_5 ?_
  refine g_iconst F 2 dX5_swingsTooFar_8 (by decide) ?_
  refine u1_iald F 18 0 xc_18 rfl 2 rfl (by decide) (by decide) dX5_swingsTooFar_9 (G 18 2) (rfl) ?_
  refine u_mmax F w_6 w_7 w_8 w_9 (Nat.le_of_ble_eq_true rfl) (Nat.le_of_ble_eq_true rfl) (Nat.le_of_ble_eq_true rfl) (Nat.le_of_ble_eq_true rfl) dX5_swingsTooFar_10 1 (G 18 2).toInt rfl rfl (fun y17 ey17 => ?_)
  refine g_fold (G 18 2) (Int32.toInt_inj.mp (by omega)) ?_
  refine g_istore F [(5, .int (G 18 2)), (0, .ref (a 6)), (1, .int p0), (2, .int p1), (3, .int p2), (4, .int p3)] dX5_swingsTooFar_13 (by decide) rfl ?_
  refine g_aload_n F 1 dX5_swingsTooFar_15 rfl rfl ?_
  refine xg_6_0 F i_X5 w_4 dX5_swingsTooFar_16 ?_
  refine xg_2_0 F i_X7 w_5 dX5_swingsTooFar_19 ?_
  refine g_bipush F 7 dX5_swingsTooFar_22 (by decide) ?_
  refine u1_iald F 18 0 xc_18 rfl 7 rfl (by decide) (by decide) dX5_swingsTooFar_24 (G 18 7) (rfl) ?_
  refine g_istore F [(6, .int (G 18 7)), (5, .int (G 18 2)), (0, .ref (a 6)), (1, .int p0), (2, .int p1), (3, .int p2), (4, .int p3)] dX5_swingsTooFar_25 (by decide) rfl ?_
  refine g_aload_n F 2 dX5_swingsTooFar_27 rfl rfl ?_
  refine xg_6_13 F i_X5 w_0 dX5_swingsTooFar_28 (G 6 13) (rfl) ?_
  refine g_istore F [(7, .int (G 6 13)), (6, .int (G 18 7)), (5, .int (G 18 2)), (0, .ref (a 6)), (1, .int p0), (2, .int p1), (3, .int p2), (4, .int p3)] dX5_swingsTooFar_31 (by decide) rfl ?_
  refine g_aload_n F 3 dX5_swingsTooFar_33 rfl rfl ?_
  refine xg_6_14 F i_X5 w_1 dX5_swingsTooFar_34 (G 6 14) (rfl) ?_
  refine g_istore F [(8, .int (G 6 14)), (7, .int (G 6 13)), (6, .int (G 18 7)), (5, .int (G 18 2)), (0, .ref (a 6)), (1, .int p0), (2, .int p1), (3, .int p2), (4, .int p3)] dX5_swingsTooFar_37 (by decide) rfl ?_
  refine g_aload_n F 4 dX5_swingsTooFar_39 rfl rfl ?_
  refine xg_6_18 F i_X5 w_2 dX5_swingsTooFar_40 (G 6 18) (rfl) ?_
  refine g_istore F [(9, .int (G 6 18)), (8, .int (G 6 14)), (7, .int (G 6 13)), (6, .int (G 18 7)), (5, .int (G 18 2)), (0, .ref (a 6)), (1, .int p0), (2, .int p1), (3, .int p2), (4, .int p3)] dX5_swingsTooFar_43 (by decide) rfl ?_
  refine g_iconst F 0 dX5_swingsTooFar_45 (by decide) ?_
  refine g_istore F [(10, .int 0), (9, .int (G 6 18)), (8, .int (G 6 14)), (7, .int (G 6 13)), (6, .int (G 18 7)), (5, .int (G 18 2)), (0, .ref (a 6)), (1, .int p0), (2, .int p1), (3, .int p2), (4, .int p3)] dX5_swingsTooFar_46 (by decide) rfl ?_
  refine g_iconst F 0 dX5_swingsTooFar_48 (by decide) ?_
  refine g_istore F [(11, .int 0), (10, .int 0), (9, .int (G 6 18)), (8, .int (G 6 14)), (7, .int (G 6 13)), (6, .int (G 18 7)), (5, .int (G 18 2)), (0, .ref (a 6)), (1, .int p0), (2, .int p1), (3, .int p2), (4, .int p3)] dX5_swingsTooFar_49 (by decide) rfl ?_
  refine g_locals [(0, .ref (a 6)), (1, .int p0), (2, .int p1), (3, .int p2), (4, .int p3), (5, .int (G 18 2)), (6, .int (G 18 7)), (7, .int (G 6 13)), (8, .int (G 6 14)), (9, .int (G 6 18)), (10, .int 0), (11, .int 0)] [7, 8, 9, 10, 11, 6, 5, 4, 3, 2, 1, 0] rfl ?_
  exact J_51 _ (G 6 13) (G 6 14) (G 6 18) 0 0 (Nat.lt_succ_self _) (by decide) (by decide) (fun Q S hq hs => by show swR S _ _ _ (G 6 16 + 0) _; rw [Int32.add_zero]; exact hs) (by (first | omega | (simp only [Int32.reduceToInt, true_and, and_true, ne_eq, not_true_eq_false, false_and, or_false, false_or, true_or, or_true, false_implies] <;> omega))) (by (first | omega | (simp only [Int32.reduceToInt, true_and, and_true, ne_eq, not_true_eq_false, false_and, or_false, false_or, true_or, or_true, false_implies] <;> omega)))

theorem dX5_storeHeights_0 : decode cX5_storeHeights 0 = .ok (.aload_n 0, 1) := by decide +kernel
theorem dX5_storeHeights_1 : decode cX5_storeHeights 1 = .ok (.getfield 29, 3) := by decide +kernel
theorem dX5_storeHeights_4 : decode cX5_storeHeights 4 = .ok (.getfield 56, 3) := by decide +kernel
theorem dX5_storeHeights_7 : decode cX5_storeHeights 7 = .ok (.iconst 0, 1) := by decide +kernel
theorem dX5_storeHeights_8 : decode cX5_storeHeights 8 = .ok (.iaload, 1) := by decide +kernel
theorem dX5_storeHeights_9 : decode cX5_storeHeights 9 = .ok (.istore_n 2, 1) := by decide +kernel
theorem dX5_storeHeights_10 : decode cX5_storeHeights 10 = .ok (.aload_n 0, 1) := by decide +kernel
theorem dX5_storeHeights_11 : decode cX5_storeHeights 11 = .ok (.getfield 33, 3) := by decide +kernel
theorem dX5_storeHeights_14 : decode cX5_storeHeights 14 = .ok (.iconst 0, 1) := by decide +kernel
theorem dX5_storeHeights_15 : decode cX5_storeHeights 15 = .ok (.invokestatic 59, 3) := by decide +kernel
theorem dX5_storeHeights_18 : decode cX5_storeHeights 18 = .ok (.istore_n 3, 1) := by decide +kernel
theorem dX5_storeHeights_19 : decode cX5_storeHeights 19 = .ok (.iconst 0, 1) := by decide +kernel
theorem dX5_storeHeights_20 : decode cX5_storeHeights 20 = .ok (.istore 4, 2) := by decide +kernel
theorem dX5_storeHeights_22 : decode cX5_storeHeights 22 = .ok (.iload 4, 2) := by decide +kernel
theorem dX5_storeHeights_24 : decode cX5_storeHeights 24 = .ok (.iload_n 2, 1) := by decide +kernel
theorem dX5_storeHeights_25 : decode cX5_storeHeights 25 = .ok (.if_icmp .ge 42, 3) := by decide +kernel
theorem dX5_storeHeights_28 : decode cX5_storeHeights 28 = .ok (.iload 4, 2) := by decide +kernel
theorem dX5_storeHeights_30 : decode cX5_storeHeights 30 = .ok (.bipush 16, 2) := by decide +kernel
theorem dX5_storeHeights_32 : decode cX5_storeHeights 32 = .ok (.if_icmp .ge 35, 3) := by decide +kernel
theorem dX5_storeHeights_35 : decode cX5_storeHeights 35 = .ok (.iload_n 3, 1) := by decide +kernel
theorem dX5_storeHeights_36 : decode cX5_storeHeights 36 = .ok (.ifCond .lt 25, 3) := by decide +kernel
theorem dX5_storeHeights_39 : decode cX5_storeHeights 39 = .ok (.iload_n 3, 1) := by decide +kernel
theorem dX5_storeHeights_40 : decode cX5_storeHeights 40 = .ok (.iload 4, 2) := by decide +kernel
theorem dX5_storeHeights_42 : decode cX5_storeHeights 42 = .ok (.iadd, 1) := by decide +kernel
theorem dX5_storeHeights_43 : decode cX5_storeHeights 43 = .ok (.aload_n 1, 1) := by decide +kernel
theorem dX5_storeHeights_44 : decode cX5_storeHeights 44 = .ok (.arraylength, 1) := by decide +kernel
theorem dX5_storeHeights_45 : decode cX5_storeHeights 45 = .ok (.if_icmp .ge 16, 3) := by decide +kernel
theorem dX5_storeHeights_48 : decode cX5_storeHeights 48 = .ok (.aload_n 1, 1) := by decide +kernel
theorem dX5_storeHeights_49 : decode cX5_storeHeights 49 = .ok (.iload_n 3, 1) := by decide +kernel
theorem dX5_storeHeights_50 : decode cX5_storeHeights 50 = .ok (.iload 4, 2) := by decide +kernel
theorem dX5_storeHeights_52 : decode cX5_storeHeights 52 = .ok (.iadd, 1) := by decide +kernel
theorem dX5_storeHeights_53 : decode cX5_storeHeights 53 = .ok (.aload_n 0, 1) := by decide +kernel
theorem dX5_storeHeights_54 : decode cX5_storeHeights 54 = .ok (.getfield 17, 3) := by decide +kernel
theorem dX5_storeHeights_57 : decode cX5_storeHeights 57 = .ok (.iload 4, 2) := by decide +kernel
theorem dX5_storeHeights_59 : decode cX5_storeHeights 59 = .ok (.iaload, 1) := by decide +kernel
theorem dX5_storeHeights_60 : decode cX5_storeHeights 60 = .ok (.iastore, 1) := by decide +kernel
theorem dX5_storeHeights_61 : decode cX5_storeHeights 61 = .ok (.iinc 4 1, 3) := by decide +kernel
theorem dX5_storeHeights_64 : decode cX5_storeHeights 64 = .ok (.goto (-42), 3) := by decide +kernel
theorem dX5_storeHeights_67 : decode cX5_storeHeights 67 = .ok (.return_, 1) := by decide +kernel
set_option maxRecDepth 20000 in
theorem ggX5_storeHeights_X6_placeOf : GoodIn wsX5_storeHeights wsX6_placeOf := goodIn_r _ [8] rfl (by decide +kernel)
set_option maxRecDepth 20000 in
theorem gX5_storeHeights_X6_placeOf : GoodIn wsX5_storeHeights (va_wsS RX5 59 yX6_placeOf wsX6_placeOf) := goodIn_app (goodIn_of _ (by decide +kernel)) ggX5_storeHeights_X6_placeOf
set_option maxHeartbeats 4000000 in
set_option maxRecDepth 100000 in
theorem S_X5_storeHeights_38 (l : Launch) (D : va_G) (K : Nat → ClassId) (a : Nat → Nat) (G : gS) (hrg : (0 ≤ (G 6 1).toInt ∧ (G 6 1).toInt ≤ 5)) (hI : xI G) (sz : Nat) : Kv l yX5_storeHeights wsX5_storeHeights 2 61 0 0 D [.ref (a 6), .ref (a 38)] (xW K a G) (tK K) sz (fun (G' : gS) => (xI G') ∧ (gu_un xcd [3800] G G') ∧ ((∀ q : Nat, G' 38 q = sHr (G 38) (G 45) (G 6 1).toInt (G 18 0).toInt q))) (fun (G' : gS) => (xW K a G')) (fun _ => (tK K)) := by
  unfold Kv
  refine g_ofW (cc := cX5_storeHeights) (lv := [(0, .ref (a 6)), (1, .ref (a 38))]) (by decide) rfl (Nat.le_of_ble_eq_true rfl) rfl ?_
  intro p e s m args below meth c A Q hA hQ F hr hnm
  have hts := F.2.2.2.2.1
  have w_0 : (Cond.fieldLink RX5 17 "QuietCut$Lathe" "heights" "[I").before args s = true := hts _ (List.mem_of_getElem? (i := 4) rfl)
  have i_X5 : ∀ w ∈ u_ws RX5 TX5 20, w ∈ wsX5_storeHeights := fun _ h => List.mem_cons_of_mem _ (List.mem_append_left _ (List.mem_append_right _ h))
  have w_1 : (Cond.fieldLink RX5 29 "QuietCut$Lathe" "shop" "LQuietCut$Shop;").before args s = true := hts _ (List.mem_of_getElem? (i := 1) rfl)
  have w_2 : (Cond.fieldLink RX5 56 "QuietCut$Shop" "numbers" "[I").before args s = true := hts _ (List.mem_of_getElem? (i := 2) rfl)
  have i_X7 : ∀ w ∈ u_ws RX7 TX7 4, w ∈ wsX5_storeHeights := fun _ h => List.mem_cons_of_mem _ (List.mem_append_right _ h)
  have w_3 : (Cond.fieldLink RX5 33 "QuietCut$Lathe" "ring" "I").before args s = true := hts _ (List.mem_of_getElem? (i := 3) rfl)
  have b1 : (4 : Int) ≤ (G 18 0).toInt ∧ (G 18 0).toInt ≤ 16 := hI 18 0
  have J_22 : ∀ (fuel : Nat) (x22_3 : Int32) (x22_4 : Int32) (Gj22 : gS), (2147483647 - x22_4.toInt).toNat < fuel → (0 ≤ x22_3.toInt ∧ x22_3.toInt ≤ 95) → (0 ≤ x22_4.toInt ∧ x22_4.toInt ≤ 16) → (xI Gj22) → (gu_un xcd [3800] G Gj22) → (∀ q : Nat, Gj22 38 q = sHr (G 38) (G 45) (G 6 1).toInt x22_4.toInt q) → ((x22_3.toInt = (G 6 1).toInt * 16)) → ((x22_4.toInt ≤ (G 18 0).toInt)) → gG p l e (gR 2 0 0 61) s m args below meth c D A 5 Q 0 0 (xW K a Gj22) (tK K) [(0, .ref (a 6)), (1, .ref (a 38)), (2, .int (G 18 0)), (3, .int x22_3), (4, .int x22_4)] 22 [] := by
    intro fuel
    induction fuel with
    | zero => intro x22_3 x22_4 Gj22 hm; exact absurd hm (Nat.not_lt_zero _)
    | succ fuel_22 ih_22 =>
      intro x22_3 x22_4 Gj22 hm_22 h22_3 h22_4 jI22 jU22 sh s3 il
      refine g_iload F 4 dX5_storeHeights_22 rfl ?_
      refine g_iload_n F 2 dX5_storeHeights_24 rfl rfl ?_
      refine v_icmp_ge F 67 dX5_storeHeights_25 (by decide) x22_4.toInt (G 18 0).toInt rfl rfl (fun c2 => ?_) (fun c2 => ?_)
      · exact u_vret F hA hQ hr Gj22 (⟨jI22, (gu_un.tr gu_un.rf (gu_un.su jU22 rfl)), (fun q => by have h9 := sh q; rw [show x22_4.toInt = (G 18 0).toInt by omega] at h9; exact h9)⟩) rfl rfl dX5_storeHeights_67
      · refine g_iload F 4 dX5_storeHeights_28 rfl ?_
        refine g_bipush F 16 dX5_storeHeights_30 (by decide) ?_
        refine v_icmp_ge F 67 dX5_storeHeights_32 (by decide) x22_4.toInt 16 rfl rfl (fun c3 => absurd c3 (by omega)) (fun c3 => ?_)
        refine g_iload_n F 3 dX5_storeHeights_35 rfl rfl ?_
        refine v_if_lt F 61 dX5_storeHeights_36 (by decide) x22_3.toInt rfl (fun c4 => absurd c4 (by omega)) (fun c4 => ?_)
        refine g_iload_n F 3 dX5_storeHeights_39 rfl rfl ?_
        refine g_iload F 4 dX5_storeHeights_40 rfl ?_
        refine u_iadd F dX5_storeHeights_42 x22_3.toInt x22_4.toInt rfl rfl (by omega) (by omega) (fun y5 ey5 => ?_)
        refine g_aload_n F 1 dX5_storeHeights_43 rfl rfl ?_
        refine g_alen F 38 0 xc_38 rfl 96 rfl dX5_storeHeights_44 ?_
        refine v_icmp_ge F 61 dX5_storeHeights_45 (by decide) y5.toInt 96 rfl rfl (fun c6 => ?_) (fun c6 => ?_)
        · refine u_iinc F (fun v_ => [(4, .int v_), (0, .ref (a 6)), (1, .ref (a 38)), (2, .int (G 18 0)), (3, .int x22_3)]) dX5_storeHeights_61 (j := 4) rfl x22_4.toInt 1 rfl rfl (by omega) (by omega) (by decide) (fun _ => rfl) (fun y7 ey7 => ?_)
          refine g_goto F 22 dX5_storeHeights_64 (by decide) ?_
          refine g_locals [(0, .ref (a 6)), (1, .ref (a 38)), (2, .int (G 18 0)), (3, .int x22_3), (4, .int y7)] [1, 2, 3, 4, 0] rfl ?_
          exact ih_22 x22_3 y7 Gj22 (by omega) (by have h9 := ti_rng x22_3; omega) (by have h9 := ti_rng y7; omega) jI22 (gu_un.tr gu_un.rf (gu_un.su jU22 rfl)) (by exfalso; omega) (by have e9_6_1 : Gj22 6 1 = (G 6 1) := jU22 6 1 (by decide); (try simp only [e9_6_1, true_and, and_true]) <;> (first | omega | (simp only [Int32.reduceToInt, true_and, and_true, ne_eq, not_true_eq_false, false_and, or_false, false_or, true_or, or_true, false_implies] <;> omega))) (by have e9_18_0 : Gj22 18 0 = (G 18 0) := jU22 18 0 (by decide); (try simp only [e9_18_0, true_and, and_true]) <;> (first | omega | (simp only [Int32.reduceToInt, true_and, and_true, ne_eq, not_true_eq_false, false_and, or_false, false_or, true_or, or_true, false_implies] <;> omega)))
        · refine g_aload_n F 1 dX5_storeHeights_48 rfl rfl ?_
          refine g_iload_n F 3 dX5_storeHeights_49 rfl rfl ?_
          refine g_iload F 4 dX5_storeHeights_50 rfl ?_
          refine u_iadd F dX5_storeHeights_52 x22_3.toInt x22_4.toInt rfl rfl (by omega) (by omega) (fun y8 ey8 => ?_)
          refine g_aload_n F 0 dX5_storeHeights_53 rfl rfl ?_
          refine xg_6_8 F i_X5 w_0 dX5_storeHeights_54 ?_
          refine g_iload F 4 dX5_storeHeights_57 rfl ?_
          refine u1_iald F 45 0 xc_45 rfl x22_4.toInt rfl (by omega) (by omega) dX5_storeHeights_59 ((G 45) (x22_4.toInt).toNat) (congrFun ((show Gj22 45 = G 45 from funext fun k_ => jU22 45 k_ (show (4500 : Nat) ∉ ([3800] : List Nat) by decide))) _) ?_
          have b9 : ((-9998) : Int) ≤ ((G 45) (x22_4.toInt).toNat).toInt ∧ ((G 45) (x22_4.toInt).toNat).toInt ≤ 5000 := hI 45 _
          refine u_iast F 38 0 xc_38 rfl y8.toInt rfl (by omega) (by omega) (xW K a (gu_up Gj22 38 (y8.toInt).toNat ((G 45) (x22_4.toInt).toNat))) (xs_38 _) dX5_storeHeights_60 ?_
          refine u_iinc F (fun v_ => [(4, .int v_), (0, .ref (a 6)), (1, .ref (a 38)), (2, .int (G 18 0)), (3, .int x22_3)]) dX5_storeHeights_61 (j := 4) rfl x22_4.toInt 1 rfl rfl (by omega) (by omega) (by decide) (fun _ => rfl) (fun y10 ey10 => ?_)
          refine g_goto F 22 dX5_storeHeights_64 (by decide) ?_
          refine g_locals [(0, .ref (a 6)), (1, .ref (a 38)), (2, .int (G 18 0)), (3, .int x22_3), (4, .int y10)] [1, 2, 3, 4, 0] rfl ?_
          exact ih_22 x22_3 y10 (gu_up Gj22 38 (y8.toInt).toNat ((G 45) (x22_4.toInt).toNat)) (by omega) (by have h9 := ti_rng x22_3; omega) (by have h9 := ti_rng y10; omega) (gu_I.up (j := 38) (k := (y8.toInt).toNat) (v := ((G 45) (x22_4.toInt).toNat)) jI22 (show ((-9998) : Int) ≤ Int32.toInt ((G 45) (x22_4.toInt).toNat) by omega) (show Int32.toInt ((G 45) (x22_4.toInt).toNat) ≤ 5000 by omega)) (gu_un.up (j := 38) (k := (y8.toInt).toNat) (v := ((G 45) (x22_4.toInt).toNat)) (gu_un.tr gu_un.rf (gu_un.su jU22 rfl)) (show (3800 : Nat) ∈ ([3800] : List Nat) by decide)) (sHr_1 (i := x22_4.toInt) (k := y8.toInt) sh (by omega) (by omega) (by omega) rfl (by omega)) (by have e9_6_1 : (gu_up Gj22 38 (y8.toInt).toNat ((G 45) (x22_4.toInt).toNat)) 6 1 = (G 6 1) := jU22 6 1 (by decide); (try simp only [e9_6_1, true_and, and_true]) <;> (first | omega | (simp only [Int32.reduceToInt, true_and, and_true, ne_eq, not_true_eq_false, false_and, or_false, false_or, true_or, or_true, false_implies] <;> omega))) (by have e9_18_0 : (gu_up Gj22 38 (y8.toInt).toNat ((G 45) (x22_4.toInt).toNat)) 18 0 = (G 18 0) := jU22 18 0 (by decide); (try simp only [e9_18_0, true_and, and_true]) <;> (first | omega | (simp only [Int32.reduceToInt, true_and, and_true, ne_eq, not_true_eq_false, false_and, or_false, false_or, true_or, or_true, false_implies] <;> omega)))
  refine g_aload_n F 0 dX5_storeHeights_0 rfl rfl ?_
  refine xg_6_0 F i_X5 w_1 dX5_storeHeights_1 ?_
  refine xg_2_0 F i_X7 w_2 dX5_storeHeights_4 ?_
  refine g_iconst F 0 dX5_storeHeights_7 (by decide) ?_
  refine u1_iald F 18 0 xc_18 rfl 0 rfl (by decide) (by decide) dX5_storeHeights_8 (G 18 0) (rfl) ?_
  refine g_istore_n F [(2, .int (G 18 0)), (0, .ref (a 6)), (1, .ref (a 38))] dX5_storeHeights_9 rfl (by decide) rfl ?_
  refine g_aload_n F 1 dX5_storeHeights_10 rfl rfl ?_
  refine xg_6_1 F i_X5 w_3 dX5_storeHeights_11 (G 6 1) (rfl) ?_
  refine g_iconst F 0 dX5_storeHeights_14 (by decide) ?_
  refine u_call0 (k := 0) (n := 0) (As := [.int (G 6 1), .int 0]) (st := []) F (fun sz => S_X6_placeOf_b5_b15 l D (G 6 1) (G 6 1).toInt 0 0 rfl (by omega) rfl (by decide) sz) (va_cwS 2 hts gX5_storeHeights_X6_placeOf rfl rfl rfl (by decide +kernel) ⟨Nat.le_of_ble_eq_true rfl, Nat.le_of_ble_eq_true rfl⟩) rfl (Nat.le_of_ble_eq_true rfl) ⟨Nat.zero_le _, Nat.zero_le _⟩ dX5_storeHeights_15 (fun r11 _ hw12 => ?_)
  have rg14 := hw12.1
  have rg15 := hw12.2
  clear hw12
  refine g_istore_n F [(3, .int r11), (2, .int (G 18 0)), (0, .ref (a 6)), (1, .ref (a 38))] dX5_storeHeights_18 rfl (by decide) rfl ?_
  refine g_iconst F 0 dX5_storeHeights_19 (by decide) ?_
  refine g_istore F [(4, .int 0), (3, .int r11), (2, .int (G 18 0)), (0, .ref (a 6)), (1, .ref (a 38))] dX5_storeHeights_20 (by decide) rfl ?_
  refine g_locals [(0, .ref (a 6)), (1, .ref (a 38)), (2, .int (G 18 0)), (3, .int r11), (4, .int 0)] [3, 4, 2, 1, 0] rfl ?_
  exact J_22 _ r11 0 G (Nat.lt_succ_self _) (by have h9 := ti_rng r11; omega) (by decide) hI gu_un.rf (sHr_0 rfl) (by (first | omega | (simp only [Int32.reduceToInt, true_and, and_true, ne_eq, not_true_eq_false, false_and, or_false, false_or, true_or, or_true, false_implies] <;> omega))) (by (first | omega | (simp only [Int32.reduceToInt, true_and, and_true, ne_eq, not_true_eq_false, false_and, or_false, false_or, true_or, or_true, false_implies] <;> omega)))


set_option maxHeartbeats 4000000 in
set_option maxRecDepth 100000 in
theorem S_X6_placeOf_b6_b15 (l : Launch) (D : va_G)  (p0 : Int32) (s0 : Int) (p1 : Int32) (s1 : Int) (e0 : p0.toInt = s0) (h0 : (-1) ≤ s0 ∧ s0 ≤ 6) (e1 : p1.toInt = s1) (h1 : 0 ≤ s1 ∧ s1 ≤ 15) (sz : Nat) : Ki l yX6_placeOf wsX6_placeOf 1 40 0 0 D [.int p0, .int p1] [] [] sz (fun (r : Int32) (_ : Unit) => ((-16) ≤ r.toInt ∧ r.toInt ≤ 111) ∧ (r.toInt = s0 * 16 + s1)) (fun (_ : Unit) => []) (fun _ => []) := by
  unfold Ki
  refine g_ofW (cc := cX6_placeOf) (lv := [(0, .int p0), (1, .int p1)]) (by decide) rfl (Nat.le_of_ble_eq_true rfl) rfl ?_
  intro p e s m args below meth c A Q hA hQ F hr hnm
  have hts := F.2.2.2.2.1
  refine g_iload_n F 0 dX6_placeOf_0 rfl rfl ?_
  refine g_bipush F 16 dX6_placeOf_1 (by decide) ?_
  refine u_imul F dX6_placeOf_3 s0 16 e0 rfl (by omega) (by omega) (fun y1 ey1 => ?_)
  refine g_iload_n F 1 dX6_placeOf_4 rfl rfl ?_
  refine u_iadd F dX6_placeOf_5 y1.toInt s1 rfl e1 (by omega) (by omega) (fun y2 ey2 => ?_)
  exact u_iret F hA hQ hr () (⟨(by have h9 := ti_rng y2; omega), (by omega)⟩) rfl rfl dX6_placeOf_6

theorem dX5_gapIn_0 : decode cX5_gapIn 0 = .ok (.aload_n 0, 1) := by decide +kernel
theorem dX5_gapIn_1 : decode cX5_gapIn 1 = .ok (.getfield 29, 3) := by decide +kernel
theorem dX5_gapIn_4 : decode cX5_gapIn 4 = .ok (.getfield 56, 3) := by decide +kernel
theorem dX5_gapIn_7 : decode cX5_gapIn 7 = .ok (.iconst 0, 1) := by decide +kernel
theorem dX5_gapIn_8 : decode cX5_gapIn 8 = .ok (.iaload, 1) := by decide +kernel
theorem dX5_gapIn_9 : decode cX5_gapIn 9 = .ok (.istore_n 3, 1) := by decide +kernel
theorem dX5_gapIn_10 : decode cX5_gapIn 10 = .ok (.aload_n 0, 1) := by decide +kernel
theorem dX5_gapIn_11 : decode cX5_gapIn 11 = .ok (.getfield 29, 3) := by decide +kernel
theorem dX5_gapIn_14 : decode cX5_gapIn 14 = .ok (.aload_n 0, 1) := by decide +kernel
theorem dX5_gapIn_15 : decode cX5_gapIn 15 = .ok (.getfield 33, 3) := by decide +kernel
theorem dX5_gapIn_18 : decode cX5_gapIn 18 = .ok (.iconst 1, 1) := by decide +kernel
theorem dX5_gapIn_19 : decode cX5_gapIn 19 = .ok (.isub, 1) := by decide +kernel
theorem dX5_gapIn_20 : decode cX5_gapIn 20 = .ok (.invokevirtual 46, 3) := by decide +kernel
theorem dX5_gapIn_23 : decode cX5_gapIn 23 = .ok (.istore 4, 2) := by decide +kernel
theorem dX5_gapIn_25 : decode cX5_gapIn 25 = .ok (.aload_n 0, 1) := by decide +kernel
theorem dX5_gapIn_26 : decode cX5_gapIn 26 = .ok (.getfield 29, 3) := by decide +kernel
theorem dX5_gapIn_29 : decode cX5_gapIn 29 = .ok (.aload_n 0, 1) := by decide +kernel
theorem dX5_gapIn_30 : decode cX5_gapIn 30 = .ok (.getfield 33, 3) := by decide +kernel
theorem dX5_gapIn_33 : decode cX5_gapIn 33 = .ok (.iconst 1, 1) := by decide +kernel
theorem dX5_gapIn_34 : decode cX5_gapIn 34 = .ok (.iadd, 1) := by decide +kernel
theorem dX5_gapIn_35 : decode cX5_gapIn 35 = .ok (.invokevirtual 46, 3) := by decide +kernel
theorem dX5_gapIn_38 : decode cX5_gapIn 38 = .ok (.istore 5, 2) := by decide +kernel
theorem dX5_gapIn_40 : decode cX5_gapIn 40 = .ok (.iload 4, 2) := by decide +kernel
theorem dX5_gapIn_42 : decode cX5_gapIn 42 = .ok (.ifCond .eq 21, 3) := by decide +kernel
theorem dX5_gapIn_45 : decode cX5_gapIn 45 = .ok (.aload_n 1, 1) := by decide +kernel
theorem dX5_gapIn_46 : decode cX5_gapIn 46 = .ok (.aload_n 0, 1) := by decide +kernel
theorem dX5_gapIn_47 : decode cX5_gapIn 47 = .ok (.getfield 33, 3) := by decide +kernel
theorem dX5_gapIn_50 : decode cX5_gapIn 50 = .ok (.iconst 1, 1) := by decide +kernel
theorem dX5_gapIn_51 : decode cX5_gapIn 51 = .ok (.isub, 1) := by decide +kernel
theorem dX5_gapIn_52 : decode cX5_gapIn 52 = .ok (.iconst 0, 1) := by decide +kernel
theorem dX5_gapIn_53 : decode cX5_gapIn 53 = .ok (.invokestatic 59, 3) := by decide +kernel
theorem dX5_gapIn_56 : decode cX5_gapIn 56 = .ok (.iload_n 3, 1) := by decide +kernel
theorem dX5_gapIn_57 : decode cX5_gapIn 57 = .ok (.invokestatic 113, 3) := by decide +kernel
theorem dX5_gapIn_60 : decode cX5_gapIn 60 = .ok (.goto 4, 3) := by decide +kernel
theorem dX5_gapIn_63 : decode cX5_gapIn 63 = .ok (.iload_n 2, 1) := by decide +kernel
theorem dX5_gapIn_64 : decode cX5_gapIn 64 = .ok (.istore 6, 2) := by decide +kernel
theorem dX5_gapIn_66 : decode cX5_gapIn 66 = .ok (.iload 5, 2) := by decide +kernel
theorem dX5_gapIn_68 : decode cX5_gapIn 68 = .ok (.ifCond .eq 21, 3) := by decide +kernel
theorem dX5_gapIn_71 : decode cX5_gapIn 71 = .ok (.aload_n 1, 1) := by decide +kernel
theorem dX5_gapIn_72 : decode cX5_gapIn 72 = .ok (.aload_n 0, 1) := by decide +kernel
theorem dX5_gapIn_73 : decode cX5_gapIn 73 = .ok (.getfield 33, 3) := by decide +kernel
theorem dX5_gapIn_76 : decode cX5_gapIn 76 = .ok (.iconst 1, 1) := by decide +kernel
theorem dX5_gapIn_77 : decode cX5_gapIn 77 = .ok (.iadd, 1) := by decide +kernel
theorem dX5_gapIn_78 : decode cX5_gapIn 78 = .ok (.iconst 0, 1) := by decide +kernel
theorem dX5_gapIn_79 : decode cX5_gapIn 79 = .ok (.invokestatic 59, 3) := by decide +kernel
theorem dX5_gapIn_82 : decode cX5_gapIn 82 = .ok (.iload_n 3, 1) := by decide +kernel
theorem dX5_gapIn_83 : decode cX5_gapIn 83 = .ok (.invokestatic 113, 3) := by decide +kernel
theorem dX5_gapIn_86 : decode cX5_gapIn 86 = .ok (.goto 4, 3) := by decide +kernel
theorem dX5_gapIn_89 : decode cX5_gapIn 89 = .ok (.iload_n 2, 1) := by decide +kernel
theorem dX5_gapIn_90 : decode cX5_gapIn 90 = .ok (.istore 7, 2) := by decide +kernel
theorem dX5_gapIn_92 : decode cX5_gapIn 92 = .ok (.iload 4, 2) := by decide +kernel
theorem dX5_gapIn_94 : decode cX5_gapIn 94 = .ok (.ifCond .eq 16, 3) := by decide +kernel
theorem dX5_gapIn_97 : decode cX5_gapIn 97 = .ok (.iload 5, 2) := by decide +kernel
theorem dX5_gapIn_99 : decode cX5_gapIn 99 = .ok (.ifCond .eq 11, 3) := by decide +kernel
theorem dX5_gapIn_102 : decode cX5_gapIn 102 = .ok (.iload 6, 2) := by decide +kernel
theorem dX5_gapIn_104 : decode cX5_gapIn 104 = .ok (.iload 7, 2) := by decide +kernel
theorem dX5_gapIn_106 : decode cX5_gapIn 106 = .ok (.invokestatic 159, 3) := by decide +kernel
theorem dX5_gapIn_109 : decode cX5_gapIn 109 = .ok (.ireturn, 1) := by decide +kernel
theorem dX5_gapIn_110 : decode cX5_gapIn 110 = .ok (.iload 4, 2) := by decide +kernel
theorem dX5_gapIn_112 : decode cX5_gapIn 112 = .ok (.ifCond .eq 8, 3) := by decide +kernel
theorem dX5_gapIn_115 : decode cX5_gapIn 115 = .ok (.iload 6, 2) := by decide +kernel
theorem dX5_gapIn_117 : decode cX5_gapIn 117 = .ok (.goto 5, 3) := by decide +kernel
theorem dX5_gapIn_120 : decode cX5_gapIn 120 = .ok (.iload 7, 2) := by decide +kernel
theorem dX5_gapIn_122 : decode cX5_gapIn 122 = .ok (.ireturn, 1) := by decide +kernel
set_option maxRecDepth 20000 in
theorem ggX5_gapIn_X5_least : GoodIn wsX5_gapIn wsX5_least := goodIn_r _ [21, 22, 4, 5, 6, 7] rfl (by decide +kernel)
set_option maxRecDepth 20000 in
theorem gX5_gapIn_X5_least : GoodIn wsX5_gapIn (va_wsS RX5 113 yX5_least wsX5_least) := goodIn_app (goodIn_of _ (by decide +kernel)) ggX5_gapIn_X5_least
set_option maxRecDepth 20000 in
theorem ggX5_gapIn_X6_placeOf : GoodIn wsX5_gapIn wsX6_placeOf := goodIn_r _ [17] rfl (by decide +kernel)
set_option maxRecDepth 20000 in
theorem gX5_gapIn_X6_placeOf : GoodIn wsX5_gapIn (va_wsS RX5 59 yX6_placeOf wsX6_placeOf) := goodIn_app (goodIn_of _ (by decide +kernel)) ggX5_gapIn_X6_placeOf
set_option maxRecDepth 20000 in
theorem ggX5_gapIn_X7_hasRing : GoodIn wsX5_gapIn wsX7_hasRing := goodIn_r _ [12, 13, 43, 44, 45, 46] rfl (by decide +kernel)
set_option maxRecDepth 20000 in
theorem gX5_gapIn_X7_hasRing : GoodIn wsX5_gapIn (wsV RX5 46 RX7 yX7_hasRing wsX7_hasRing) := goodIn_app (goodIn_of _ (by decide +kernel)) ggX5_gapIn_X7_hasRing
set_option maxHeartbeats 4000000 in
set_option maxRecDepth 100000 in
theorem S_X5_gapIn_38 (l : Launch) (D : va_G) (K : Nat → ClassId) (a : Nat → Nat) (G : gS) (p1 : Int32) (s1 : Int) (e1 : p1.toInt = s1) (h1 : (-9998) ≤ s1 ∧ s1 ≤ 5000) (hrg : (0 ≤ (G 6 1).toInt ∧ (G 6 1).toInt ≤ 5)) (rgn : ((G 6 1).toInt < (G 18 1).toInt)) (hI : xI G) (sz : Nat) : Ki l yX5_gapIn wsX5_gapIn 2 64 0 0 D [.ref (a 6), .ref (a 38), .int p1] (xW K a G) (tK K) sz (fun (r : Int32) (_ : Unit) => ((-9998) ≤ r.toInt ∧ r.toInt ≤ 1000000) ∧ ((r.toInt = psGa (G 38) (G 6 1).toInt (G 18 1).toInt (G 18 0).toInt s1))) (fun (_ : Unit) => (xW K a G)) (fun _ => (tK K)) := by
  unfold Ki
  refine g_ofW (cc := cX5_gapIn) (lv := [(0, .ref (a 6)), (1, .ref (a 38)), (2, .int p1)]) (by decide) rfl (Nat.le_of_ble_eq_true rfl) rfl ?_
  intro p e s m args below meth c A Q hA hQ F hr hnm
  have hts := F.2.2.2.2.1
  have w_0 : (Cond.fieldLink RX5 29 "QuietCut$Lathe" "shop" "LQuietCut$Shop;").before args s = true := hts _ (List.mem_of_getElem? (i := 1) rfl)
  have i_X5 : ∀ w ∈ u_ws RX5 TX5 20, w ∈ wsX5_gapIn := fun _ h => List.mem_cons_of_mem _ (List.mem_append_left _ (List.mem_append_right _ h))
  have w_1 : (Cond.fieldLink RX5 56 "QuietCut$Shop" "numbers" "[I").before args s = true := hts _ (List.mem_of_getElem? (i := 2) rfl)
  have i_X7 : ∀ w ∈ u_ws RX7 TX7 4, w ∈ wsX5_gapIn := fun _ h => List.mem_cons_of_mem _ (List.mem_append_right _ h)
  have w_2 : (Cond.fieldLink RX5 33 "QuietCut$Lathe" "ring" "I").before args s = true := hts _ (List.mem_of_getElem? (i := 3) rfl)
  have w_3 : (Cond.methodLink RX5 159 Lib.Math.min.name).before args s = true := hts _ (List.mem_of_getElem? (i := 4) rfl)
  have w_4 : (Cond.static Lib.Math.min.name).before args s = true := hts _ (List.mem_of_getElem? (i := 5) rfl)
  have w_5 : (Cond.initialized "java/lang/Math").before args s = true := hts _ (List.mem_of_getElem? (i := 6) rfl)
  have w_6 : (Cond.code Lib.Math.min.name Lib.Math.min.code 2 (some .int)).before args s = true := hts _ (List.mem_of_getElem? (i := 7) rfl)
  have b1 : (4 : Int) ≤ (G 18 0).toInt ∧ (G 18 0).toInt ≤ 16 := hI 18 0
  have b2 : (1 : Int) ≤ (G 18 1).toInt ∧ (G 18 1).toInt ≤ 6 := hI 18 1
  refine g_aload_n F 0 dX5_gapIn_0 rfl rfl ?_
  refine xg_6_0 F i_X5 w_0 dX5_gapIn_1 ?_
  refine xg_2_0 F i_X7 w_1 dX5_gapIn_4 ?_
  refine g_iconst F 0 dX5_gapIn_7 (by decide) ?_
  refine u1_iald F 18 0 xc_18 rfl 0 rfl (by decide) (by decide) dX5_gapIn_8 (G 18 0) (rfl) ?_
  refine g_istore_n F [(3, .int (G 18 0)), (0, .ref (a 6)), (1, .ref (a 38)), (2, .int p1)] dX5_gapIn_9 rfl (by decide) rfl ?_
  refine g_aload_n F 1 dX5_gapIn_10 rfl rfl ?_
  refine xg_6_0 F i_X5 w_0 dX5_gapIn_11 ?_
  refine g_aload_n F 1 dX5_gapIn_14 rfl rfl ?_
  refine xg_6_1 F i_X5 w_2 dX5_gapIn_15 (G 6 1) (rfl) ?_
  refine g_iconst F 1 dX5_gapIn_18 (by decide) ?_
  refine u_isub F dX5_gapIn_19 (G 6 1).toInt 1 rfl rfl (by omega) (by omega) (fun y3 ey3 => ?_)
  refine u_callVi (k := 0) (n := 0) (b := a 2) (As := [.int y3]) (st := []) F (fun sz => S_X7_hasRing_2 l D K a G y3 y3.toInt rfl hI sz) (cwV 1 hts gX5_gapIn_X7_hasRing rfl rfl rfl (by decide +kernel) ⟨Nat.le_of_ble_eq_true rfl, Nat.le_of_ble_eq_true rfl⟩) rfl 2 xc_2 rfl (Nat.le_of_ble_eq_true rfl) ⟨Nat.zero_le _, Nat.zero_le _⟩ dX5_gapIn_20 (fun r4 _ hw5 => ?_)
  rcases hw5 with ⟨rfl, q7⟩ | ⟨rfl, q8⟩
  · have q7 : (0 ≤ y3.toInt ∧ y3.toInt < (G 18 1).toInt) := q7
    refine g_istore F [(4, .int 1), (3, .int (G 18 0)), (0, .ref (a 6)), (1, .ref (a 38)), (2, .int p1)] dX5_gapIn_23 (by decide) rfl ?_
    refine g_aload_n F 2 dX5_gapIn_25 rfl rfl ?_
    refine xg_6_0 F i_X5 w_0 dX5_gapIn_26 ?_
    refine g_aload_n F 2 dX5_gapIn_29 rfl rfl ?_
    refine xg_6_1 F i_X5 w_2 dX5_gapIn_30 (G 6 1) (rfl) ?_
    refine g_iconst F 1 dX5_gapIn_33 (by decide) ?_
    refine u_iadd F dX5_gapIn_34 (G 6 1).toInt 1 rfl rfl (by omega) (by omega) (fun y9 ey9 => ?_)
    refine u_callVi (k := 0) (n := 0) (b := a 2) (As := [.int y9]) (st := []) F (fun sz => S_X7_hasRing_2 l D K a G y9 y9.toInt rfl hI sz) (cwV 1 hts gX5_gapIn_X7_hasRing rfl rfl rfl (by decide +kernel) ⟨Nat.le_of_ble_eq_true rfl, Nat.le_of_ble_eq_true rfl⟩) rfl 2 xc_2 rfl (Nat.le_of_ble_eq_true rfl) ⟨Nat.zero_le _, Nat.zero_le _⟩ dX5_gapIn_35 (fun r10 _ hw11 => ?_)
    rcases hw11 with ⟨rfl, q13⟩ | ⟨rfl, q14⟩
    · have q13 : (0 ≤ y9.toInt ∧ y9.toInt < (G 18 1).toInt) := q13
      refine g_istore F [(5, .int 1), (4, .int 1), (3, .int (G 18 0)), (0, .ref (a 6)), (1, .ref (a 38)), (2, .int p1)] dX5_gapIn_38 (by decide) rfl ?_
      refine g_iload F 1 dX5_gapIn_40 rfl ?_
      refine v_if_eq F 63 dX5_gapIn_42 (by decide) 1 rfl (fun c15 => absurd c15 (by decide)) (fun c15 => ?_)
      refine g_aload_n F 4 dX5_gapIn_45 rfl rfl ?_
      refine g_aload_n F 3 dX5_gapIn_46 rfl rfl ?_
      refine xg_6_1 F i_X5 w_2 dX5_gapIn_47 (G 6 1) (rfl) ?_
      refine g_iconst F 1 dX5_gapIn_50 (by decide) ?_
      refine u_isub F dX5_gapIn_51 (G 6 1).toInt 1 rfl rfl (by omega) (by omega) (fun y16 ey16 => ?_)
      refine g_iconst F 0 dX5_gapIn_52 (by decide) ?_
      refine u_call0 (k := 0) (n := 0) (As := [.int y16, .int 0]) (st := [.ref (a 38)]) F (fun sz => S_X6_placeOf_b6_b15 l D y16 y16.toInt 0 0 rfl (by omega) rfl (by decide) sz) (va_cwS 2 hts gX5_gapIn_X6_placeOf rfl rfl rfl (by decide +kernel) ⟨Nat.le_of_ble_eq_true rfl, Nat.le_of_ble_eq_true rfl⟩) rfl (Nat.le_of_ble_eq_true rfl) ⟨Nat.zero_le _, Nat.zero_le _⟩ dX5_gapIn_53 (fun r17 _ hw18 => ?_)
      have rg20 := hw18.1
      have rg21 := hw18.2
      clear hw18
      refine g_iload_n F 2 dX5_gapIn_56 rfl rfl ?_
      refine u_callSi (k := 0) (n := 0) (As := [.ref (a 38), .int r17, .int (G 18 0)]) (st := []) F (fun sz => S_X5_least_38 l D K a G r17 r17.toInt (G 18 0) (G 18 0).toInt rfl (by omega) rfl (by omega) hI sz) (va_cwS 3 hts gX5_gapIn_X5_least rfl rfl rfl (by decide +kernel) ⟨Nat.le_of_ble_eq_true rfl, Nat.le_of_ble_eq_true rfl⟩) rfl (Nat.le_of_ble_eq_true rfl) ⟨Nat.zero_le _, Nat.zero_le _⟩ dX5_gapIn_57 (fun r22 _ hw23 => ?_)
      have q25 : (0 ≤ r17.toInt ∧ 1 ≤ (G 18 0).toInt ∧ r17.toInt + (G 18 0).toInt ≤ 96 → r22.toInt = psMn (fun q => (G 38) (r17.toInt.toNat + q)) ((G 18 0).toInt - 1).toNat) := hw23.2
      have rg26 := hw23.1
      clear hw23
      refine g_goto F 64 dX5_gapIn_60 (by decide) ?_
      refine g_istore F [(6, .int r22), (5, .int 1), (4, .int 1), (3, .int (G 18 0)), (0, .ref (a 6)), (1, .ref (a 38)), (2, .int p1)] dX5_gapIn_64 (by decide) rfl ?_
      refine g_iload F 1 dX5_gapIn_66 rfl ?_
      refine v_if_eq F 89 dX5_gapIn_68 (by decide) 1 rfl (fun c27 => absurd c27 (by decide)) (fun c27 => ?_)
      refine g_aload_n F 5 dX5_gapIn_71 rfl rfl ?_
      refine g_aload_n F 4 dX5_gapIn_72 rfl rfl ?_
      refine xg_6_1 F i_X5 w_2 dX5_gapIn_73 (G 6 1) (rfl) ?_
      refine g_iconst F 1 dX5_gapIn_76 (by decide) ?_
      refine u_iadd F dX5_gapIn_77 (G 6 1).toInt 1 rfl rfl (by omega) (by omega) (fun y28 ey28 => ?_)
      refine g_iconst F 0 dX5_gapIn_78 (by decide) ?_
      refine u_call0 (k := 0) (n := 0) (As := [.int y28, .int 0]) (st := [.ref (a 38)]) F (fun sz => S_X6_placeOf_b6_b15 l D y28 y28.toInt 0 0 rfl (by omega) rfl (by decide) sz) (va_cwS 2 hts gX5_gapIn_X6_placeOf rfl rfl rfl (by decide +kernel) ⟨Nat.le_of_ble_eq_true rfl, Nat.le_of_ble_eq_true rfl⟩) rfl (Nat.le_of_ble_eq_true rfl) ⟨Nat.zero_le _, Nat.zero_le _⟩ dX5_gapIn_79 (fun r29 _ hw30 => ?_)
      have rg32 := hw30.1
      have rg33 := hw30.2
      clear hw30
      refine g_iload_n F 3 dX5_gapIn_82 rfl rfl ?_
      refine u_callSi (k := 0) (n := 0) (As := [.ref (a 38), .int r29, .int (G 18 0)]) (st := []) F (fun sz => S_X5_least_38 l D K a G r29 r29.toInt (G 18 0) (G 18 0).toInt rfl (by omega) rfl (by omega) hI sz) (va_cwS 3 hts gX5_gapIn_X5_least rfl rfl rfl (by decide +kernel) ⟨Nat.le_of_ble_eq_true rfl, Nat.le_of_ble_eq_true rfl⟩) rfl (Nat.le_of_ble_eq_true rfl) ⟨Nat.zero_le _, Nat.zero_le _⟩ dX5_gapIn_83 (fun r34 _ hw35 => ?_)
      have q37 : (0 ≤ r29.toInt ∧ 1 ≤ (G 18 0).toInt ∧ r29.toInt + (G 18 0).toInt ≤ 96 → r34.toInt = psMn (fun q => (G 38) (r29.toInt.toNat + q)) ((G 18 0).toInt - 1).toNat) := hw35.2
      have rg38 := hw35.1
      clear hw35
      refine g_goto F 90 dX5_gapIn_86 (by decide) ?_
      refine g_istore F [(7, .int r34), (6, .int r22), (5, .int 1), (4, .int 1), (3, .int (G 18 0)), (0, .ref (a 6)), (1, .ref (a 38)), (2, .int p1)] dX5_gapIn_90 (by decide) rfl ?_
      refine g_iload F 3 dX5_gapIn_92 rfl ?_
      refine v_if_eq F 110 dX5_gapIn_94 (by decide) 1 rfl (fun c39 => absurd c39 (by decide)) (fun c39 => ?_)
      refine g_iload F 2 dX5_gapIn_97 rfl ?_
      refine v_if_eq F 110 dX5_gapIn_99 (by decide) 1 rfl (fun c40 => absurd c40 (by decide)) (fun c40 => ?_)
      refine g_iload F 1 dX5_gapIn_102 rfl ?_
      refine g_iload F 0 dX5_gapIn_104 rfl ?_
      refine u_mmin F w_3 w_4 w_5 w_6 (Nat.le_of_ble_eq_true rfl) (Nat.le_of_ble_eq_true rfl) (Nat.le_of_ble_eq_true rfl) (Nat.le_of_ble_eq_true rfl) dX5_gapIn_106 r22.toInt r34.toInt rfl rfl (fun y41 ey41 => ?_)
      exact u_iret F hA hQ hr () (⟨(by have h9 := ti_rng y41; omega), (by have h1 := q25 ⟨by omega, by omega, by omega⟩; rw [show r17.toInt = 16 * ((G 6 1).toInt - 1) by omega] at h1; have h2 := q37 ⟨by omega, by omega, by omega⟩; rw [show r29.toInt = 16 * ((G 6 1).toInt + 1) by omega] at h2; unfold psGa; rw [if_pos (by omega), if_pos (by omega), ← h1, ← h2]; omega)⟩) rfl rfl dX5_gapIn_109
    · have q14 : (y9.toInt < 0 ∨ (G 18 1).toInt ≤ y9.toInt) := q14
      refine g_istore F [(5, .int 0), (4, .int 1), (3, .int (G 18 0)), (0, .ref (a 6)), (1, .ref (a 38)), (2, .int p1)] dX5_gapIn_38 (by decide) rfl ?_
      refine g_iload F 1 dX5_gapIn_40 rfl ?_
      refine v_if_eq F 63 dX5_gapIn_42 (by decide) 1 rfl (fun c42 => absurd c42 (by decide)) (fun c42 => ?_)
      refine g_aload_n F 4 dX5_gapIn_45 rfl rfl ?_
      refine g_aload_n F 3 dX5_gapIn_46 rfl rfl ?_
      refine xg_6_1 F i_X5 w_2 dX5_gapIn_47 (G 6 1) (rfl) ?_
      refine g_iconst F 1 dX5_gapIn_50 (by decide) ?_
      refine u_isub F dX5_gapIn_51 (G 6 1).toInt 1 rfl rfl (by omega) (by omega) (fun y43 ey43 => ?_)
      refine g_iconst F 0 dX5_gapIn_52 (by decide) ?_
      refine u_call0 (k := 0) (n := 0) (As := [.int y43, .int 0]) (st := [.ref (a 38)]) F (fun sz => S_X6_placeOf_b6_b15 l D y43 y43.toInt 0 0 rfl (by omega) rfl (by decide) sz) (va_cwS 2 hts gX5_gapIn_X6_placeOf rfl rfl rfl (by decide +kernel) ⟨Nat.le_of_ble_eq_true rfl, Nat.le_of_ble_eq_true rfl⟩) rfl (Nat.le_of_ble_eq_true rfl) ⟨Nat.zero_le _, Nat.zero_le _⟩ dX5_gapIn_53 (fun r44 _ hw45 => ?_)
      have rg47 := hw45.1
      have rg48 := hw45.2
      clear hw45
      refine g_iload_n F 2 dX5_gapIn_56 rfl rfl ?_
      refine u_callSi (k := 0) (n := 0) (As := [.ref (a 38), .int r44, .int (G 18 0)]) (st := []) F (fun sz => S_X5_least_38 l D K a G r44 r44.toInt (G 18 0) (G 18 0).toInt rfl (by omega) rfl (by omega) hI sz) (va_cwS 3 hts gX5_gapIn_X5_least rfl rfl rfl (by decide +kernel) ⟨Nat.le_of_ble_eq_true rfl, Nat.le_of_ble_eq_true rfl⟩) rfl (Nat.le_of_ble_eq_true rfl) ⟨Nat.zero_le _, Nat.zero_le _⟩ dX5_gapIn_57 (fun r49 _ hw50 => ?_)
      have q52 : (0 ≤ r44.toInt ∧ 1 ≤ (G 18 0).toInt ∧ r44.toInt + (G 18 0).toInt ≤ 96 → r49.toInt = psMn (fun q => (G 38) (r44.toInt.toNat + q)) ((G 18 0).toInt - 1).toNat) := hw50.2
      have rg53 := hw50.1
      clear hw50
      refine g_goto F 64 dX5_gapIn_60 (by decide) ?_
      refine g_istore F [(6, .int r49), (5, .int 0), (4, .int 1), (3, .int (G 18 0)), (0, .ref (a 6)), (1, .ref (a 38)), (2, .int p1)] dX5_gapIn_64 (by decide) rfl ?_
      refine g_iload F 1 dX5_gapIn_66 rfl ?_
      refine v_if_eq F 89 dX5_gapIn_68 (by decide) 0 rfl (fun c54 => ?_) (fun c54 => absurd c54 (by decide))
      refine g_iload_n F 6 dX5_gapIn_89 rfl rfl ?_
      refine g_istore F [(7, .int p1), (6, .int r49), (5, .int 0), (4, .int 1), (3, .int (G 18 0)), (0, .ref (a 6)), (1, .ref (a 38)), (2, .int p1)] dX5_gapIn_90 (by decide) rfl ?_
      refine g_iload F 3 dX5_gapIn_92 rfl ?_
      refine v_if_eq F 110 dX5_gapIn_94 (by decide) 1 rfl (fun c55 => absurd c55 (by decide)) (fun c55 => ?_)
      refine g_iload F 2 dX5_gapIn_97 rfl ?_
      refine v_if_eq F 110 dX5_gapIn_99 (by decide) 0 rfl (fun c56 => ?_) (fun c56 => absurd c56 (by decide))
      refine g_iload F 3 dX5_gapIn_110 rfl ?_
      refine v_if_eq F 120 dX5_gapIn_112 (by decide) 1 rfl (fun c57 => absurd c57 (by decide)) (fun c57 => ?_)
      refine g_iload F 1 dX5_gapIn_115 rfl ?_
      refine g_goto F 122 dX5_gapIn_117 (by decide) ?_
      exact u_iret F hA hQ hr () (⟨(by have h9 := ti_rng r49; omega), (by first | (have h1 := q52 ⟨by omega, by omega, by omega⟩; rw [show r44.toInt = 16 * ((G 6 1).toInt - 1) by omega] at h1; unfold psGa; rw [if_pos (by omega), if_neg (by omega), ← h1]; done) | (have h1 := q52 ⟨by omega, by omega, by omega⟩; rw [show r44.toInt = 16 * ((G 6 1).toInt + 1) by omega] at h1; unfold psGa; rw [if_neg (by omega), if_pos (by omega), ← h1]; done))⟩) rfl rfl dX5_gapIn_122
  · have q8 : (y3.toInt < 0 ∨ (G 18 1).toInt ≤ y3.toInt) := q8
    refine g_istore F [(4, .int 0), (3, .int (G 18 0)), (0, .ref (a 6)), (1, .ref (a 38)), (2, .int p1)] dX5_gapIn_23 (by decide) rfl ?_
    refine g_aload_n F 2 dX5_gapIn_25 rfl rfl ?_
    refine xg_6_0 F i_X5 w_0 dX5_gapIn_26 ?_
    refine g_aload_n F 2 dX5_gapIn_29 rfl rfl ?_
    refine xg_6_1 F i_X5 w_2 dX5_gapIn_30 (G 6 1) (rfl) ?_
    refine g_iconst F 1 dX5_gapIn_33 (by decide) ?_
    refine u_iadd F dX5_gapIn_34 (G 6 1).toInt 1 rfl rfl (by omega) (by omega) (fun y58 ey58 => ?_)
    refine u_callVi (k := 0) (n := 0) (b := a 2) (As := [.int y58]) (st := []) F (fun sz => S_X7_hasRing_2 l D K a G y58 y58.toInt rfl hI sz) (cwV 1 hts gX5_gapIn_X7_hasRing rfl rfl rfl (by decide +kernel) ⟨Nat.le_of_ble_eq_true rfl, Nat.le_of_ble_eq_true rfl⟩) rfl 2 xc_2 rfl (Nat.le_of_ble_eq_true rfl) ⟨Nat.zero_le _, Nat.zero_le _⟩ dX5_gapIn_35 (fun r59 _ hw60 => ?_)
    rcases hw60 with ⟨rfl, q62⟩ | ⟨rfl, q63⟩
    · have q62 : (0 ≤ y58.toInt ∧ y58.toInt < (G 18 1).toInt) := q62
      refine g_istore F [(5, .int 1), (4, .int 0), (3, .int (G 18 0)), (0, .ref (a 6)), (1, .ref (a 38)), (2, .int p1)] dX5_gapIn_38 (by decide) rfl ?_
      refine g_iload F 1 dX5_gapIn_40 rfl ?_
      refine v_if_eq F 63 dX5_gapIn_42 (by decide) 0 rfl (fun c64 => ?_) (fun c64 => absurd c64 (by decide))
      refine g_iload_n F 5 dX5_gapIn_63 rfl rfl ?_
      refine g_istore F [(6, .int p1), (5, .int 1), (4, .int 0), (3, .int (G 18 0)), (0, .ref (a 6)), (1, .ref (a 38)), (2, .int p1)] dX5_gapIn_64 (by decide) rfl ?_
      refine g_iload F 1 dX5_gapIn_66 rfl ?_
      refine v_if_eq F 89 dX5_gapIn_68 (by decide) 1 rfl (fun c65 => absurd c65 (by decide)) (fun c65 => ?_)
      refine g_aload_n F 5 dX5_gapIn_71 rfl rfl ?_
      refine g_aload_n F 4 dX5_gapIn_72 rfl rfl ?_
      refine xg_6_1 F i_X5 w_2 dX5_gapIn_73 (G 6 1) (rfl) ?_
      refine g_iconst F 1 dX5_gapIn_76 (by decide) ?_
      refine u_iadd F dX5_gapIn_77 (G 6 1).toInt 1 rfl rfl (by omega) (by omega) (fun y66 ey66 => ?_)
      refine g_iconst F 0 dX5_gapIn_78 (by decide) ?_
      refine u_call0 (k := 0) (n := 0) (As := [.int y66, .int 0]) (st := [.ref (a 38)]) F (fun sz => S_X6_placeOf_b6_b15 l D y66 y66.toInt 0 0 rfl (by omega) rfl (by decide) sz) (va_cwS 2 hts gX5_gapIn_X6_placeOf rfl rfl rfl (by decide +kernel) ⟨Nat.le_of_ble_eq_true rfl, Nat.le_of_ble_eq_true rfl⟩) rfl (Nat.le_of_ble_eq_true rfl) ⟨Nat.zero_le _, Nat.zero_le _⟩ dX5_gapIn_79 (fun r67 _ hw68 => ?_)
      have rg70 := hw68.1
      have rg71 := hw68.2
      clear hw68
      refine g_iload_n F 3 dX5_gapIn_82 rfl rfl ?_
      refine u_callSi (k := 0) (n := 0) (As := [.ref (a 38), .int r67, .int (G 18 0)]) (st := []) F (fun sz => S_X5_least_38 l D K a G r67 r67.toInt (G 18 0) (G 18 0).toInt rfl (by omega) rfl (by omega) hI sz) (va_cwS 3 hts gX5_gapIn_X5_least rfl rfl rfl (by decide +kernel) ⟨Nat.le_of_ble_eq_true rfl, Nat.le_of_ble_eq_true rfl⟩) rfl (Nat.le_of_ble_eq_true rfl) ⟨Nat.zero_le _, Nat.zero_le _⟩ dX5_gapIn_83 (fun r72 _ hw73 => ?_)
      have q75 : (0 ≤ r67.toInt ∧ 1 ≤ (G 18 0).toInt ∧ r67.toInt + (G 18 0).toInt ≤ 96 → r72.toInt = psMn (fun q => (G 38) (r67.toInt.toNat + q)) ((G 18 0).toInt - 1).toNat) := hw73.2
      have rg76 := hw73.1
      clear hw73
      refine g_goto F 90 dX5_gapIn_86 (by decide) ?_
      refine g_istore F [(7, .int r72), (6, .int p1), (5, .int 1), (4, .int 0), (3, .int (G 18 0)), (0, .ref (a 6)), (1, .ref (a 38)), (2, .int p1)] dX5_gapIn_90 (by decide) rfl ?_
      refine g_iload F 3 dX5_gapIn_92 rfl ?_
      refine v_if_eq F 110 dX5_gapIn_94 (by decide) 0 rfl (fun c77 => ?_) (fun c77 => absurd c77 (by decide))
      refine g_iload F 3 dX5_gapIn_110 rfl ?_
      refine v_if_eq F 120 dX5_gapIn_112 (by decide) 0 rfl (fun c78 => ?_) (fun c78 => absurd c78 (by decide))
      refine g_iload F 0 dX5_gapIn_120 rfl ?_
      exact u_iret F hA hQ hr () (⟨(by have h9 := ti_rng r72; omega), (by first | (have h1 := q75 ⟨by omega, by omega, by omega⟩; rw [show r67.toInt = 16 * ((G 6 1).toInt - 1) by omega] at h1; unfold psGa; rw [if_pos (by omega), if_neg (by omega), ← h1]; done) | (have h1 := q75 ⟨by omega, by omega, by omega⟩; rw [show r67.toInt = 16 * ((G 6 1).toInt + 1) by omega] at h1; unfold psGa; rw [if_neg (by omega), if_pos (by omega), ← h1]; done))⟩) rfl rfl dX5_gapIn_122
    · have q63 : (y58.toInt < 0 ∨ (G 18 1).toInt ≤ y58.toInt) := q63
      refine g_istore F [(5, .int 0), (4, .int 0), (3, .int (G 18 0)), (0, .ref (a 6)), (1, .ref (a 38)), (2, .int p1)] dX5_gapIn_38 (by decide) rfl ?_
      refine g_iload F 1 dX5_gapIn_40 rfl ?_
      refine v_if_eq F 63 dX5_gapIn_42 (by decide) 0 rfl (fun c79 => ?_) (fun c79 => absurd c79 (by decide))
      refine g_iload_n F 5 dX5_gapIn_63 rfl rfl ?_
      refine g_istore F [(6, .int p1), (5, .int 0), (4, .int 0), (3, .int (G 18 0)), (0, .ref (a 6)), (1, .ref (a 38)), (2, .int p1)] dX5_gapIn_64 (by decide) rfl ?_
      refine g_iload F 1 dX5_gapIn_66 rfl ?_
      refine v_if_eq F 89 dX5_gapIn_68 (by decide) 0 rfl (fun c80 => ?_) (fun c80 => absurd c80 (by decide))
      refine g_iload_n F 6 dX5_gapIn_89 rfl rfl ?_
      refine g_istore F [(7, .int p1), (6, .int p1), (5, .int 0), (4, .int 0), (3, .int (G 18 0)), (0, .ref (a 6)), (1, .ref (a 38)), (2, .int p1)] dX5_gapIn_90 (by decide) rfl ?_
      refine g_iload F 3 dX5_gapIn_92 rfl ?_
      refine v_if_eq F 110 dX5_gapIn_94 (by decide) 0 rfl (fun c81 => ?_) (fun c81 => absurd c81 (by decide))
      refine g_iload F 3 dX5_gapIn_110 rfl ?_
      refine v_if_eq F 120 dX5_gapIn_112 (by decide) 0 rfl (fun c82 => ?_) (fun c82 => absurd c82 (by decide))
      refine g_iload F 0 dX5_gapIn_120 rfl ?_
      exact u_iret F hA hQ hr () (⟨(by have h9 := ti_rng p1; omega), (by unfold psGa; rw [if_neg (by omega), if_neg (by omega)]; exact e1)⟩) rfl rfl dX5_gapIn_122

theorem dJ9_floorMod_7cf53_0 : decode cJ9_floorMod_7cf53 0 = .ok (.iload_n 0, 1) := by decide +kernel
theorem dJ9_floorMod_7cf53_1 : decode cJ9_floorMod_7cf53 1 = .ok (.iload_n 1, 1) := by decide +kernel
theorem dJ9_floorMod_7cf53_2 : decode cJ9_floorMod_7cf53 2 = .ok (.irem, 1) := by decide +kernel
theorem dJ9_floorMod_7cf53_3 : decode cJ9_floorMod_7cf53 3 = .ok (.istore_n 2, 1) := by decide +kernel
theorem dJ9_floorMod_7cf53_4 : decode cJ9_floorMod_7cf53 4 = .ok (.iload_n 0, 1) := by decide +kernel
theorem dJ9_floorMod_7cf53_5 : decode cJ9_floorMod_7cf53 5 = .ok (.iload_n 1, 1) := by decide +kernel
theorem dJ9_floorMod_7cf53_6 : decode cJ9_floorMod_7cf53 6 = .ok (.ixor, 1) := by decide +kernel
theorem dJ9_floorMod_7cf53_7 : decode cJ9_floorMod_7cf53 7 = .ok (.ifCond .ge 11, 3) := by decide +kernel
theorem dJ9_floorMod_7cf53_10 : decode cJ9_floorMod_7cf53 10 = .ok (.iload_n 2, 1) := by decide +kernel
theorem dJ9_floorMod_7cf53_11 : decode cJ9_floorMod_7cf53 11 = .ok (.ifCond .eq 7, 3) := by decide +kernel
theorem dJ9_floorMod_7cf53_14 : decode cJ9_floorMod_7cf53 14 = .ok (.iload_n 2, 1) := by decide +kernel
theorem dJ9_floorMod_7cf53_15 : decode cJ9_floorMod_7cf53 15 = .ok (.iload_n 1, 1) := by decide +kernel
theorem dJ9_floorMod_7cf53_16 : decode cJ9_floorMod_7cf53 16 = .ok (.iadd, 1) := by decide +kernel
theorem dJ9_floorMod_7cf53_17 : decode cJ9_floorMod_7cf53 17 = .ok (.ireturn, 1) := by decide +kernel
theorem dJ9_floorMod_7cf53_18 : decode cJ9_floorMod_7cf53 18 = .ok (.iload_n 2, 1) := by decide +kernel
theorem dJ9_floorMod_7cf53_19 : decode cJ9_floorMod_7cf53 19 = .ok (.ireturn, 1) := by decide +kernel
set_option maxHeartbeats 4000000 in
set_option maxRecDepth 100000 in
theorem S_J9_floorMod_7cf53 (l : Launch) (D : va_G)  (p0 : Int32) (s0 : Int) (p1 : Int32) (s1 : Int) (e0 : p0.toInt = s0) (h0 : 0 ≤ s0 ∧ s0 ≤ 31) (e1 : p1.toInt = s1) (h1 : 1 ≤ s1 ∧ s1 ≤ 16) (sz : Nat) : Ki l yJ9_floorMod_7cf53 wsJ9_floorMod_7cf53 1 40 0 0 D [.int p0, .int p1] [] [] sz (fun (r : Int32) (_ : Unit) => (0 ≤ r.toInt ∧ r.toInt ≤ 15) ∧ ((r.toInt = s0 % s1)) ∧ ((0 ≤ r.toInt ∧ r.toInt < s1))) (fun (_ : Unit) => []) (fun _ => []) := by
  unfold Ki
  refine g_ofWF (cc := cJ9_floorMod_7cf53) (lv := [(0, .int p0), (1, .int p1)]) (by decide +kernel) rfl (Nat.le_of_ble_eq_true rfl) rfl ?_
  intro p e s m args below meth c A Q hA hQ F hr hnm
  have hts := F.2.2.2.2.1
  refine g_iload_n F 0 dJ9_floorMod_7cf53_0 rfl rfl ?_
  refine g_iload_n F 1 dJ9_floorMod_7cf53_1 rfl rfl ?_
  refine u_irem F dJ9_floorMod_7cf53_2 (ti_ne0 e1 (by omega)) s0 s1 e0 e1 (by omega) (by omega) (fun y1 ey1 => ?_)
  refine g_istore_n F [(2, .int y1), (0, .int p0), (1, .int p1)] dJ9_floorMod_7cf53_3 rfl (by decide) rfl ?_
  refine g_iload_n F 1 dJ9_floorMod_7cf53_4 rfl rfl ?_
  refine g_iload_n F 2 dJ9_floorMod_7cf53_5 rfl rfl ?_
  refine u_ixor F dJ9_floorMod_7cf53_6 s0 s1 e0 e1 (by omega) (by omega) (fun y2 ey2 => ?_)
  have b3 := ti_rng y2
  refine v_if_ge F 18 dJ9_floorMod_7cf53_7 (by decide) y2.toInt rfl (fun c4 => ?_) (fun c4 => absurd c4 (by omega))
  refine g_iload_n F 0 dJ9_floorMod_7cf53_18 rfl rfl ?_
  exact u_iret F hA hQ hr () (⟨(by have h9 := ti_rng y1; omega), (by show (y1.toInt = s0 % s1); (first | omega | (simp only [Int32.reduceToInt, true_and, and_true, ne_eq, not_true_eq_false, false_and, or_false, false_or, true_or, or_true, false_implies] <;> omega))), (by show (0 ≤ y1.toInt ∧ y1.toInt < s1); (first | omega | (simp only [Int32.reduceToInt, true_and, and_true, ne_eq, not_true_eq_false, false_and, or_false, false_or, true_or, or_true, false_implies] <;> omega)))⟩) rfl rfl dJ9_floorMod_7cf53_19

theorem dX3_joined_0 : decode cX3_joined 0 = .ok (.iload_n 0, 1) := by decide +kernel
theorem dX3_joined_1 : decode cX3_joined 1 = .ok (.tableswitch 63 42 47 #[47, 39, 63, 43, 63, 51], 39) := by decide +kernel
theorem dX3_joined_40 : decode cX3_joined 40 = .ok (.iload_n 1, 1) := by decide +kernel
theorem dX3_joined_41 : decode cX3_joined 41 = .ok (.iload_n 2, 1) := by decide +kernel
theorem dX3_joined_42 : decode cX3_joined 42 = .ok (.iadd, 1) := by decide +kernel
theorem dX3_joined_43 : decode cX3_joined 43 = .ok (.ireturn, 1) := by decide +kernel
theorem dX3_joined_44 : decode cX3_joined 44 = .ok (.iload_n 1, 1) := by decide +kernel
theorem dX3_joined_45 : decode cX3_joined 45 = .ok (.iload_n 2, 1) := by decide +kernel
theorem dX3_joined_46 : decode cX3_joined 46 = .ok (.isub, 1) := by decide +kernel
theorem dX3_joined_47 : decode cX3_joined 47 = .ok (.ireturn, 1) := by decide +kernel
theorem dX3_joined_48 : decode cX3_joined 48 = .ok (.iload_n 1, 1) := by decide +kernel
theorem dX3_joined_49 : decode cX3_joined 49 = .ok (.iload_n 2, 1) := by decide +kernel
theorem dX3_joined_50 : decode cX3_joined 50 = .ok (.imul, 1) := by decide +kernel
theorem dX3_joined_51 : decode cX3_joined 51 = .ok (.ireturn, 1) := by decide +kernel
theorem dX3_joined_52 : decode cX3_joined 52 = .ok (.iload_n 2, 1) := by decide +kernel
theorem dX3_joined_53 : decode cX3_joined 53 = .ok (.ifCond .ne 7, 3) := by decide +kernel
theorem dX3_joined_56 : decode cX3_joined 56 = .ok (.iconst 0, 1) := by decide +kernel
theorem dX3_joined_57 : decode cX3_joined 57 = .ok (.goto 6, 3) := by decide +kernel
theorem dX3_joined_60 : decode cX3_joined 60 = .ok (.iload_n 1, 1) := by decide +kernel
theorem dX3_joined_61 : decode cX3_joined 61 = .ok (.iload_n 2, 1) := by decide +kernel
theorem dX3_joined_62 : decode cX3_joined 62 = .ok (.idiv, 1) := by decide +kernel
theorem dX3_joined_63 : decode cX3_joined 63 = .ok (.ireturn, 1) := by decide +kernel
theorem dX3_joined_64 : decode cX3_joined 64 = .ok (.iload_n 2, 1) := by decide +kernel
theorem dX3_joined_65 : decode cX3_joined 65 = .ok (.ifCond .ne 7, 3) := by decide +kernel
theorem dX3_joined_68 : decode cX3_joined 68 = .ok (.iconst 0, 1) := by decide +kernel
theorem dX3_joined_69 : decode cX3_joined 69 = .ok (.goto 6, 3) := by decide +kernel
theorem dX3_joined_72 : decode cX3_joined 72 = .ok (.iload_n 1, 1) := by decide +kernel
theorem dX3_joined_73 : decode cX3_joined 73 = .ok (.iload_n 2, 1) := by decide +kernel
theorem dX3_joined_74 : decode cX3_joined 74 = .ok (.irem, 1) := by decide +kernel
theorem dX3_joined_75 : decode cX3_joined 75 = .ok (.ireturn, 1) := by decide +kernel
set_option maxHeartbeats 4000000 in
set_option maxRecDepth 100000 in
theorem S_X3_joined (l : Launch) (D : va_G)  (p0 : Int32) (s0 : Int) (p1 : Int32) (s1 : Int) (p2 : Int32) (s2 : Int) (e0 : p0.toInt = s0) (e1 : p1.toInt = s1) (e2 : p2.toInt = s2) (sz : Nat) : Ki l yX3_joined wsX3_joined 1 40 0 0 D [.int p0, .int p1, .int p2] [] [] sz (fun (r : Int32) (_ : Unit) => ((r.toInt = (eJ s0 p1 p2).toInt))) (fun (_ : Unit) => []) (fun _ => []) := by
  unfold Ki
  refine g_ofW (cc := cX3_joined) (lv := [(0, .int p0), (1, .int p1), (2, .int p2)]) (by decide) rfl (Nat.le_of_ble_eq_true rfl) rfl ?_
  intro p e s m args below meth c A Q hA hQ F hr hnm
  have hts := F.2.2.2.2.1
  have rg0 : -2147483648 ≤ s0 ∧ s0 ≤ 2147483647 := e0 ▸ ti_rng p0
  have rg1 : -2147483648 ≤ s1 ∧ s1 ≤ 2147483647 := e1 ▸ ti_rng p1
  have rg2 : -2147483648 ≤ s2 ∧ s2 ≤ 2147483647 := e2 ▸ ti_rng p2
  refine g_iload_n F 0 dX3_joined_0 rfl rfl ?_
  rcases (show s0 = 42 ∨ s0 = 43 ∨ s0 = 44 ∨ s0 = 45 ∨ s0 = 46 ∨ s0 = 47 ∨ (s0 < 42 ∨ 47 < s0) by omega) with c1 | c1 | c1 | c1 | c1 | c1 | c1
  · have c1' : Int32.toInt p0 = 42 := (e0).trans c1
    refine g_tableIn F 48 dX3_joined_1 (by rw [c1']; decide) (by rw [c1']; decide) (by rw [c1']; rfl) (by decide) ?_
    refine g_iload_n F 1 dX3_joined_48 rfl rfl ?_
    refine g_iload_n F 2 dX3_joined_49 rfl rfl ?_
    refine g_imul F dX3_joined_50 ?_
    exact u_iret F hA hQ hr () ((by unfold eJ; (repeat' split) <;> first | rfl | (exfalso; omega))) rfl rfl dX3_joined_51
  · have c1' : Int32.toInt p0 = 43 := (e0).trans c1
    refine g_tableIn F 40 dX3_joined_1 (by rw [c1']; decide) (by rw [c1']; decide) (by rw [c1']; rfl) (by decide) ?_
    refine g_iload_n F 1 dX3_joined_40 rfl rfl ?_
    refine g_iload_n F 2 dX3_joined_41 rfl rfl ?_
    refine g_iadd F dX3_joined_42 ?_
    exact u_iret F hA hQ hr () ((by unfold eJ; (repeat' split) <;> first | rfl | (exfalso; omega))) rfl rfl dX3_joined_43
  · have c1' : Int32.toInt p0 = 44 := (e0).trans c1
    refine g_tableIn F 64 dX3_joined_1 (by rw [c1']; decide) (by rw [c1']; decide) (by rw [c1']; rfl) (by decide) ?_
    refine g_iload_n F 2 dX3_joined_64 rfl rfl ?_
    refine v_if_ne F 72 dX3_joined_65 (by decide) s2 e2 (fun c2 => ?_) (fun c2 => ?_)
    · refine g_iload_n F 1 dX3_joined_72 rfl rfl ?_
      refine g_iload_n F 2 dX3_joined_73 rfl rfl ?_
      refine g_irem F dX3_joined_74 (ti_ne0 e2 (by omega)) ?_
      exact u_iret F hA hQ hr () ((by unfold eJ; (repeat' split) <;> first | rfl | (exfalso; omega))) rfl rfl dX3_joined_75
    · refine g_iconst F 0 dX3_joined_68 (by decide) ?_
      refine g_goto F 75 dX3_joined_69 (by decide) ?_
      exact u_iret F hA hQ hr () ((by unfold eJ; (repeat' split) <;> first | rfl | (exfalso; omega))) rfl rfl dX3_joined_75
  · have c1' : Int32.toInt p0 = 45 := (e0).trans c1
    refine g_tableIn F 44 dX3_joined_1 (by rw [c1']; decide) (by rw [c1']; decide) (by rw [c1']; rfl) (by decide) ?_
    refine g_iload_n F 1 dX3_joined_44 rfl rfl ?_
    refine g_iload_n F 2 dX3_joined_45 rfl rfl ?_
    refine g_isub F dX3_joined_46 ?_
    exact u_iret F hA hQ hr () ((by unfold eJ; (repeat' split) <;> first | rfl | (exfalso; omega))) rfl rfl dX3_joined_47
  · have c1' : Int32.toInt p0 = 46 := (e0).trans c1
    refine g_tableIn F 64 dX3_joined_1 (by rw [c1']; decide) (by rw [c1']; decide) (by rw [c1']; rfl) (by decide) ?_
    refine g_iload_n F 2 dX3_joined_64 rfl rfl ?_
    refine v_if_ne F 72 dX3_joined_65 (by decide) s2 e2 (fun c3 => ?_) (fun c3 => ?_)
    · refine g_iload_n F 1 dX3_joined_72 rfl rfl ?_
      refine g_iload_n F 2 dX3_joined_73 rfl rfl ?_
      refine g_irem F dX3_joined_74 (ti_ne0 e2 (by omega)) ?_
      exact u_iret F hA hQ hr () ((by unfold eJ; (repeat' split) <;> first | rfl | (exfalso; omega))) rfl rfl dX3_joined_75
    · refine g_iconst F 0 dX3_joined_68 (by decide) ?_
      refine g_goto F 75 dX3_joined_69 (by decide) ?_
      exact u_iret F hA hQ hr () ((by unfold eJ; (repeat' split) <;> first | rfl | (exfalso; omega))) rfl rfl dX3_joined_75
  · have c1' : Int32.toInt p0 = 47 := (e0).trans c1
    refine g_tableIn F 52 dX3_joined_1 (by rw [c1']; decide) (by rw [c1']; decide) (by rw [c1']; rfl) (by decide) ?_
    refine g_iload_n F 2 dX3_joined_52 rfl rfl ?_
    refine v_if_ne F 60 dX3_joined_53 (by decide) s2 e2 (fun c4 => ?_) (fun c4 => ?_)
    · refine g_iload_n F 1 dX3_joined_60 rfl rfl ?_
      refine g_iload_n F 2 dX3_joined_61 rfl rfl ?_
      refine g_idiv F dX3_joined_62 (ti_ne0 e2 (by omega)) ?_
      exact u_iret F hA hQ hr () ((by unfold eJ; (repeat' split) <;> first | rfl | (exfalso; omega))) rfl rfl dX3_joined_63
    · refine g_iconst F 0 dX3_joined_56 (by decide) ?_
      refine g_goto F 63 dX3_joined_57 (by decide) ?_
      exact u_iret F hA hQ hr () ((by unfold eJ; (repeat' split) <;> first | rfl | (exfalso; omega))) rfl rfl dX3_joined_63
  · refine g_tableOut F 64 dX3_joined_1 (by rw [e0]; exact c1) (by decide) ?_
    refine g_iload_n F 2 dX3_joined_64 rfl rfl ?_
    refine v_if_ne F 72 dX3_joined_65 (by decide) s2 e2 (fun c5 => ?_) (fun c5 => ?_)
    · refine g_iload_n F 1 dX3_joined_72 rfl rfl ?_
      refine g_iload_n F 2 dX3_joined_73 rfl rfl ?_
      refine g_irem F dX3_joined_74 (ti_ne0 e2 (by omega)) ?_
      exact u_iret F hA hQ hr () ((by unfold eJ; (repeat' split) <;> first | rfl | (exfalso; omega))) rfl rfl dX3_joined_75
    · refine g_iconst F 0 dX3_joined_68 (by decide) ?_
      refine g_goto F 75 dX3_joined_69 (by decide) ?_
      exact u_iret F hA hQ hr () ((by unfold eJ; (repeat' split) <;> first | rfl | (exfalso; omega))) rfl rfl dX3_joined_75

theorem dX3_value_0 : decode cX3_value 0 = .ok (.iconst 0, 1) := by decide +kernel
theorem dX3_value_1 : decode cX3_value 1 = .ok (.istore_n 3, 1) := by decide +kernel
theorem dX3_value_2 : decode cX3_value 2 = .ok (.iconst 0, 1) := by decide +kernel
theorem dX3_value_3 : decode cX3_value 3 = .ok (.istore 4, 2) := by decide +kernel
theorem dX3_value_5 : decode cX3_value 5 = .ok (.iload 4, 2) := by decide +kernel
theorem dX3_value_7 : decode cX3_value 7 = .ok (.aload_n 0, 1) := by decide +kernel
theorem dX3_value_8 : decode cX3_value 8 = .ok (.getfield 21, 3) := by decide +kernel
theorem dX3_value_11 : decode cX3_value 11 = .ok (.if_icmp .ge 149, 3) := by decide +kernel
theorem dX3_value_14 : decode cX3_value 14 = .ok (.iload 4, 2) := by decide +kernel
theorem dX3_value_16 : decode cX3_value 16 = .ok (.bipush 80, 2) := by decide +kernel
theorem dX3_value_18 : decode cX3_value 18 = .ok (.if_icmp .ge 142, 3) := by decide +kernel
theorem dX3_value_21 : decode cX3_value 21 = .ok (.aload_n 0, 1) := by decide +kernel
theorem dX3_value_22 : decode cX3_value 22 = .ok (.getfield 11, 3) := by decide +kernel
theorem dX3_value_25 : decode cX3_value 25 = .ok (.iload 4, 2) := by decide +kernel
theorem dX3_value_27 : decode cX3_value 27 = .ok (.iaload, 1) := by decide +kernel
theorem dX3_value_28 : decode cX3_value 28 = .ok (.istore 5, 2) := by decide +kernel
theorem dX3_value_30 : decode cX3_value 30 = .ok (.iload 5, 2) := by decide +kernel
theorem dX3_value_32 : decode cX3_value 32 = .ok (.bipush (-2), 2) := by decide +kernel
theorem dX3_value_34 : decode cX3_value 34 = .ok (.if_icmp .lt 46, 3) := by decide +kernel
theorem dX3_value_37 : decode cX3_value 37 = .ok (.iload_n 3, 1) := by decide +kernel
theorem dX3_value_38 : decode cX3_value 38 = .ok (.bipush 12, 2) := by decide +kernel
theorem dX3_value_40 : decode cX3_value 40 = .ok (.if_icmp .lt 5, 3) := by decide +kernel
theorem dX3_value_43 : decode cX3_value 43 = .ok (.iconst 0, 1) := by decide +kernel
theorem dX3_value_44 : decode cX3_value 44 = .ok (.ireturn, 1) := by decide +kernel
theorem dX3_value_45 : decode cX3_value 45 = .ok (.aload_n 0, 1) := by decide +kernel
theorem dX3_value_46 : decode cX3_value 46 = .ok (.getfield 15, 3) := by decide +kernel
theorem dX3_value_49 : decode cX3_value 49 = .ok (.iload_n 3, 1) := by decide +kernel
theorem dX3_value_50 : decode cX3_value 50 = .ok (.iload 5, 2) := by decide +kernel
theorem dX3_value_52 : decode cX3_value 52 = .ok (.iconst (-1), 1) := by decide +kernel
theorem dX3_value_53 : decode cX3_value 53 = .ok (.if_icmp .ne 7, 3) := by decide +kernel
theorem dX3_value_56 : decode cX3_value 56 = .ok (.iload_n 1, 1) := by decide +kernel
theorem dX3_value_57 : decode cX3_value 57 = .ok (.goto 16, 3) := by decide +kernel
theorem dX3_value_60 : decode cX3_value 60 = .ok (.iload 5, 2) := by decide +kernel
theorem dX3_value_62 : decode cX3_value 62 = .ok (.bipush (-2), 2) := by decide +kernel
theorem dX3_value_64 : decode cX3_value 64 = .ok (.if_icmp .ne 7, 3) := by decide +kernel
theorem dX3_value_67 : decode cX3_value 67 = .ok (.iload_n 2, 1) := by decide +kernel
theorem dX3_value_68 : decode cX3_value 68 = .ok (.goto 5, 3) := by decide +kernel
theorem dX3_value_71 : decode cX3_value 71 = .ok (.iload 5, 2) := by decide +kernel
theorem dX3_value_73 : decode cX3_value 73 = .ok (.iastore, 1) := by decide +kernel
theorem dX3_value_74 : decode cX3_value 74 = .ok (.iinc 3 1, 3) := by decide +kernel
theorem dX3_value_77 : decode cX3_value 77 = .ok (.goto 77, 3) := by decide +kernel
theorem dX3_value_80 : decode cX3_value 80 = .ok (.iload 5, 2) := by decide +kernel
theorem dX3_value_82 : decode cX3_value 82 = .ok (.bipush (-3), 2) := by decide +kernel
theorem dX3_value_84 : decode cX3_value 84 = .ok (.if_icmp .ne 30, 3) := by decide +kernel
theorem dX3_value_87 : decode cX3_value 87 = .ok (.iload_n 3, 1) := by decide +kernel
theorem dX3_value_88 : decode cX3_value 88 = .ok (.iconst 1, 1) := by decide +kernel
theorem dX3_value_89 : decode cX3_value 89 = .ok (.if_icmp .ge 5, 3) := by decide +kernel
theorem dX3_value_92 : decode cX3_value 92 = .ok (.iconst 0, 1) := by decide +kernel
theorem dX3_value_93 : decode cX3_value 93 = .ok (.ireturn, 1) := by decide +kernel
theorem dX3_value_94 : decode cX3_value 94 = .ok (.aload_n 0, 1) := by decide +kernel
theorem dX3_value_95 : decode cX3_value 95 = .ok (.getfield 15, 3) := by decide +kernel
theorem dX3_value_98 : decode cX3_value 98 = .ok (.iload_n 3, 1) := by decide +kernel
theorem dX3_value_99 : decode cX3_value 99 = .ok (.iconst 1, 1) := by decide +kernel
theorem dX3_value_100 : decode cX3_value 100 = .ok (.isub, 1) := by decide +kernel
theorem dX3_value_101 : decode cX3_value 101 = .ok (.aload_n 0, 1) := by decide +kernel
theorem dX3_value_102 : decode cX3_value 102 = .ok (.getfield 15, 3) := by decide +kernel
theorem dX3_value_105 : decode cX3_value 105 = .ok (.iload_n 3, 1) := by decide +kernel
theorem dX3_value_106 : decode cX3_value 106 = .ok (.iconst 1, 1) := by decide +kernel
theorem dX3_value_107 : decode cX3_value 107 = .ok (.isub, 1) := by decide +kernel
theorem dX3_value_108 : decode cX3_value 108 = .ok (.iaload, 1) := by decide +kernel
theorem dX3_value_109 : decode cX3_value 109 = .ok (.ineg, 1) := by decide +kernel
theorem dX3_value_110 : decode cX3_value 110 = .ok (.iastore, 1) := by decide +kernel
theorem dX3_value_111 : decode cX3_value 111 = .ok (.goto 43, 3) := by decide +kernel
theorem dX3_value_114 : decode cX3_value 114 = .ok (.iload_n 3, 1) := by decide +kernel
theorem dX3_value_115 : decode cX3_value 115 = .ok (.iconst 2, 1) := by decide +kernel
theorem dX3_value_116 : decode cX3_value 116 = .ok (.if_icmp .ge 5, 3) := by decide +kernel
theorem dX3_value_119 : decode cX3_value 119 = .ok (.iconst 0, 1) := by decide +kernel
theorem dX3_value_120 : decode cX3_value 120 = .ok (.ireturn, 1) := by decide +kernel
theorem dX3_value_121 : decode cX3_value 121 = .ok (.iinc 3 (-1), 3) := by decide +kernel
theorem dX3_value_124 : decode cX3_value 124 = .ok (.aload_n 0, 1) := by decide +kernel
theorem dX3_value_125 : decode cX3_value 125 = .ok (.getfield 15, 3) := by decide +kernel
theorem dX3_value_128 : decode cX3_value 128 = .ok (.iload_n 3, 1) := by decide +kernel
theorem dX3_value_129 : decode cX3_value 129 = .ok (.iconst 1, 1) := by decide +kernel
theorem dX3_value_130 : decode cX3_value 130 = .ok (.isub, 1) := by decide +kernel
theorem dX3_value_131 : decode cX3_value 131 = .ok (.bipush (-3), 2) := by decide +kernel
theorem dX3_value_133 : decode cX3_value 133 = .ok (.iload 5, 2) := by decide +kernel
theorem dX3_value_135 : decode cX3_value 135 = .ok (.isub, 1) := by decide +kernel
theorem dX3_value_136 : decode cX3_value 136 = .ok (.aload_n 0, 1) := by decide +kernel
theorem dX3_value_137 : decode cX3_value 137 = .ok (.getfield 15, 3) := by decide +kernel
theorem dX3_value_140 : decode cX3_value 140 = .ok (.iload_n 3, 1) := by decide +kernel
theorem dX3_value_141 : decode cX3_value 141 = .ok (.iconst 1, 1) := by decide +kernel
theorem dX3_value_142 : decode cX3_value 142 = .ok (.isub, 1) := by decide +kernel
theorem dX3_value_143 : decode cX3_value 143 = .ok (.iaload, 1) := by decide +kernel
theorem dX3_value_144 : decode cX3_value 144 = .ok (.aload_n 0, 1) := by decide +kernel
theorem dX3_value_145 : decode cX3_value 145 = .ok (.getfield 15, 3) := by decide +kernel
theorem dX3_value_148 : decode cX3_value 148 = .ok (.iload_n 3, 1) := by decide +kernel
theorem dX3_value_149 : decode cX3_value 149 = .ok (.iaload, 1) := by decide +kernel
theorem dX3_value_150 : decode cX3_value 150 = .ok (.invokestatic 94, 3) := by decide +kernel
theorem dX3_value_153 : decode cX3_value 153 = .ok (.iastore, 1) := by decide +kernel
theorem dX3_value_154 : decode cX3_value 154 = .ok (.iinc 4 1, 3) := by decide +kernel
theorem dX3_value_157 : decode cX3_value 157 = .ok (.goto (-152), 3) := by decide +kernel
theorem dX3_value_160 : decode cX3_value 160 = .ok (.iload_n 3, 1) := by decide +kernel
theorem dX3_value_161 : decode cX3_value 161 = .ok (.iconst 1, 1) := by decide +kernel
theorem dX3_value_162 : decode cX3_value 162 = .ok (.if_icmp .ne 12, 3) := by decide +kernel
theorem dX3_value_165 : decode cX3_value 165 = .ok (.aload_n 0, 1) := by decide +kernel
theorem dX3_value_166 : decode cX3_value 166 = .ok (.getfield 15, 3) := by decide +kernel
theorem dX3_value_169 : decode cX3_value 169 = .ok (.iconst 0, 1) := by decide +kernel
theorem dX3_value_170 : decode cX3_value 170 = .ok (.iaload, 1) := by decide +kernel
theorem dX3_value_171 : decode cX3_value 171 = .ok (.goto 4, 3) := by decide +kernel
theorem dX3_value_174 : decode cX3_value 174 = .ok (.iconst 0, 1) := by decide +kernel
theorem dX3_value_175 : decode cX3_value 175 = .ok (.ireturn, 1) := by decide +kernel
set_option maxRecDepth 20000 in
theorem ggX3_value_X3_joined : GoodIn wsX3_value wsX3_joined := goodIn_r _ [7] rfl (by decide +kernel)
set_option maxRecDepth 20000 in
theorem gX3_value_X3_joined : GoodIn wsX3_value (va_wsS RX3 94 yX3_joined wsX3_joined) := goodIn_app (goodIn_of _ (by decide +kernel)) ggX3_value_X3_joined
set_option maxHeartbeats 4000000 in
set_option maxRecDepth 100000 in
theorem S_X3_value_11 (l : Launch) (D : va_G) (K : Nat → ClassId) (a : Nat → Nat) (G : gS) (p0 : Int32) (s0 : Int) (p1 : Int32) (s1 : Int) (e0 : p0.toInt = s0) (e1 : p1.toInt = s1) (hI : xI G) (sz : Nat) : Ki l yX3_value wsX3_value 2 62 0 0 D [.ref (a 11), .int p0, .int p1] (xW K a G) (tK K) sz (fun (r : Int32) (G' : gS) => (xI G') ∧ (gu_un xcd [2100] G G') ∧ ((gcOK (tkr (G 20) ((G 11 1).toInt).toNat) → r.toInt = (eV p0 p1 (tkr (G 20) ((G 11 1).toInt).toNat)).toInt))) (fun (G' : gS) => (xW K a G')) (fun _ => (tK K)) := by
  unfold Ki
  refine g_ofW (cc := cX3_value) (lv := [(0, .ref (a 11)), (1, .int p0), (2, .int p1)]) (by decide) rfl (Nat.le_of_ble_eq_true rfl) rfl ?_
  intro p e s m args below meth c A Q hA hQ F hr hnm
  have hts := F.2.2.2.2.1
  have w_0 : (Cond.fieldLink RX3 21 "QuietCut$Formula" "length" "I").before args s = true := hts _ (List.mem_of_getElem? (i := 1) rfl)
  have i_X3 : ∀ w ∈ u_ws RX3 TX3 9, w ∈ wsX3_value := fun _ h => List.mem_cons_of_mem _ (List.mem_append_right _ h)
  have w_1 : (Cond.fieldLink RX3 15 "QuietCut$Formula" "stack" "[I").before args s = true := hts _ (List.mem_of_getElem? (i := 3) rfl)
  have w_2 : (Cond.fieldLink RX3 11 "QuietCut$Formula" "codes" "[I").before args s = true := hts _ (List.mem_of_getElem? (i := 2) rfl)
  have rg0 : -2147483648 ≤ s0 ∧ s0 ≤ 2147483647 := e0 ▸ ti_rng p0
  have rg1 : -2147483648 ≤ s1 ∧ s1 ≤ 2147483647 := e1 ▸ ti_rng p1
  have b1 : (0 : Int) ≤ (G 11 1).toInt ∧ (G 11 1).toInt ≤ 80 := hI 11 1
  have J_5 : ∀ (fuel : Nat) (x5_3 : Int32) (x5_4 : Int32) (Gj5 : gS), (2147483647 - x5_4.toInt).toNat < fuel → (0 ≤ x5_3.toInt ∧ x5_3.toInt ≤ 12) → (0 ≤ x5_4.toInt ∧ x5_4.toInt ≤ 80) → (xI Gj5) → (gu_un xcd [2100] G Gj5) → (gcOK (tkr (G 20) ((G 11 1).toInt).toNat) → skr (Gj5 21) (x5_3.toInt).toNat = eS p0 p1 (tkr (G 20) (x5_4.toInt).toNat)) → ((x5_4.toInt ≤ (G 11 1).toInt)) → gG p l e (gR 2 0 0 62) s m args below meth c D A 6 Q 0 0 (xW K a Gj5) (tK K) [(0, .ref (a 11)), (1, .int p0), (2, .int p1), (3, .int x5_3), (4, .int x5_4)] 5 [] := by
    intro fuel
    induction fuel with
    | zero => intro x5_3 x5_4 Gj5 hm; exact absurd hm (Nat.not_lt_zero _)
    | succ fuel_5 ih_5 =>
      intro x5_3 x5_4 Gj5 hm_5 h5_3 h5_4 jI5 jU5 ev il
      refine g_iload F 4 dX3_value_5 rfl ?_
      refine g_aload_n F 0 dX3_value_7 rfl rfl ?_
      refine xg_11_1 F i_X3 w_0 dX3_value_8 (G 11 1) (jU5 11 1 (by decide)) ?_
      refine v_icmp_ge F 160 dX3_value_11 (by decide) x5_4.toInt (G 11 1).toInt rfl rfl (fun c2 => ?_) (fun c2 => ?_)
      · refine g_iload_n F 3 dX3_value_160 rfl rfl ?_
        refine g_iconst F 1 dX3_value_161 (by decide) ?_
        refine v_icmp_ne F 174 dX3_value_162 (by decide) x5_3.toInt 1 rfl rfl (fun c3 => ?_) (fun c3 => ?_)
        · refine g_iconst F 0 dX3_value_174 (by decide) ?_
          exact u_iret F hA hQ hr Gj5 (⟨jI5, (gu_un.tr gu_un.rf (gu_un.su jU5 rfl)), (fun hg => by have h9 := vFin hg (by omega) (i := x5_4.toInt) (by omega) (ev hg); first | (rw [h9.2]; done) | (have h8 := h9.1; exfalso; omega))⟩) rfl rfl dX3_value_175
        · refine g_aload_n F 0 dX3_value_165 rfl rfl ?_
          refine xg_11_2 F i_X3 w_1 dX3_value_166 ?_
          refine g_iconst F 0 dX3_value_169 (by decide) ?_
          refine u1_iald F 21 0 xc_21 rfl 0 rfl (by decide) (by decide) dX3_value_170 (Gj5 21 0) (rfl) ?_
          refine g_goto F 175 dX3_value_171 (by decide) ?_
          exact u_iret F hA hQ hr Gj5 (⟨jI5, (gu_un.tr gu_un.rf (gu_un.su jU5 rfl)), (fun hg => by have h9 := vFin hg (by omega) (i := x5_4.toInt) (by omega) (ev hg); first | (rw [h9.2]; done) | (have h8 := h9.1; exfalso; omega))⟩) rfl rfl dX3_value_175
      · refine g_iload F 4 dX3_value_14 rfl ?_
        refine g_bipush F 80 dX3_value_16 (by decide) ?_
        refine v_icmp_ge F 160 dX3_value_18 (by decide) x5_4.toInt 80 rfl rfl (fun c4 => absurd c4 (by omega)) (fun c4 => ?_)
        refine g_aload_n F 0 dX3_value_21 rfl rfl ?_
        refine xg_11_0 F i_X3 w_2 dX3_value_22 ?_
        refine g_iload F 4 dX3_value_25 rfl ?_
        refine u1_iald F 20 0 xc_20 rfl x5_4.toInt rfl (by omega) (by omega) dX3_value_27 ((G 20) (x5_4.toInt).toNat) (congrFun ((show Gj5 20 = G 20 from funext fun k_ => jU5 20 k_ (show (2000 : Nat) ∉ ([2100] : List Nat) by decide))) _) ?_
        refine g_istore F [(5, .int ((G 20) (x5_4.toInt).toNat)), (0, .ref (a 11)), (1, .int p0), (2, .int p1), (3, .int x5_3), (4, .int x5_4)] dX3_value_28 (by decide) rfl ?_
        refine g_iload F 0 dX3_value_30 rfl ?_
        refine g_bipush F (-2) dX3_value_32 (by decide) ?_
        refine v_icmp_lt F 80 dX3_value_34 (by decide) ((G 20) (x5_4.toInt).toNat).toInt (-2) rfl rfl (fun c5 => ?_) (fun c5 => ?_)
        · refine g_iload F 0 dX3_value_80 rfl ?_
          refine g_bipush F (-3) dX3_value_82 (by decide) ?_
          have b6 := ti_rng ((G 20) (x5_4.toInt).toNat)
          refine v_icmp_ne F 114 dX3_value_84 (by decide) ((G 20) (x5_4.toInt).toNat).toInt (-3) rfl rfl (fun c7 => ?_) (fun c7 => ?_)
          · refine g_iload_n F 4 dX3_value_114 rfl rfl ?_
            refine g_iconst F 2 dX3_value_115 (by decide) ?_
            refine v_icmp_ge F 121 dX3_value_116 (by decide) x5_3.toInt 2 rfl rfl (fun c8 => ?_) (fun c8 => ?_)
            · refine u_iinc F (fun v_ => [(3, .int v_), (5, .int ((G 20) (x5_4.toInt).toNat)), (0, .ref (a 11)), (1, .int p0), (2, .int p1), (4, .int x5_4)]) dX3_value_121 (j := 4) rfl x5_3.toInt (-1) rfl rfl (by omega) (by omega) (by decide) (fun _ => rfl) (fun y9 ey9 => ?_)
              refine g_aload_n F 2 dX3_value_124 rfl rfl ?_
              refine xg_11_2 F i_X3 w_1 dX3_value_125 ?_
              refine g_iload_n F 0 dX3_value_128 rfl rfl ?_
              refine g_iconst F 1 dX3_value_129 (by decide) ?_
              refine u_isub F dX3_value_130 y9.toInt 1 rfl rfl (by omega) (by omega) (fun y10 ey10 => ?_)
              refine g_bipush F (-3) dX3_value_131 (by decide) ?_
              refine g_iload F 1 dX3_value_133 rfl ?_
              refine u_isub F dX3_value_135 (-3) ((G 20) (x5_4.toInt).toNat).toInt rfl rfl (by omega) (by omega) (fun y11 ey11 => ?_)
              refine g_aload_n F 2 dX3_value_136 rfl rfl ?_
              refine xg_11_2 F i_X3 w_1 dX3_value_137 ?_
              refine g_iload_n F 0 dX3_value_140 rfl rfl ?_
              refine g_iconst F 1 dX3_value_141 (by decide) ?_
              refine u_isub F dX3_value_142 y9.toInt 1 rfl rfl (by omega) (by omega) (fun y12 ey12 => ?_)
              refine u1_iald F 21 0 xc_21 rfl y12.toInt rfl (by omega) (by omega) dX3_value_143 ((Gj5 21) ((y9.toInt - 1)).toNat) (by rw [show y12.toInt = (y9.toInt - 1) by omega] <;> rfl) ?_
              refine g_aload_n F 2 dX3_value_144 rfl rfl ?_
              refine xg_11_2 F i_X3 w_1 dX3_value_145 ?_
              refine g_iload_n F 0 dX3_value_148 rfl rfl ?_
              refine u1_iald F 21 0 xc_21 rfl y9.toInt rfl (by omega) (by omega) dX3_value_149 ((Gj5 21) (y9.toInt).toNat) (rfl) ?_
              refine u_call0 (k := 0) (n := 0) (As := [.int y11, .int ((Gj5 21) ((y9.toInt - 1)).toNat), .int ((Gj5 21) (y9.toInt).toNat)]) (st := [.int y10, .ref (a 21)]) F (fun sz => S_X3_joined l D y11 y11.toInt ((Gj5 21) ((y9.toInt - 1)).toNat) ((Gj5 21) ((y9.toInt - 1)).toNat).toInt ((Gj5 21) (y9.toInt).toNat) ((Gj5 21) (y9.toInt).toNat).toInt rfl rfl rfl sz) (va_cwS 3 hts gX3_value_X3_joined rfl rfl rfl (by decide +kernel) ⟨Nat.le_of_ble_eq_true rfl, Nat.le_of_ble_eq_true rfl⟩) rfl (Nat.le_of_ble_eq_true rfl) ⟨Nat.zero_le _, Nat.zero_le _⟩ dX3_value_150 (fun r13 _ hw14 => ?_)
              have q16 : (r13.toInt = (eJ y11.toInt ((Gj5 21) ((y9.toInt - 1)).toNat) ((Gj5 21) (y9.toInt).toNat)).toInt) := hw14
              clear hw14
              refine u_iast F 21 0 xc_21 rfl y10.toInt rfl (by omega) (by omega) (xW K a (gu_up Gj5 21 (y10.toInt).toNat r13)) (xs_21 _) dX3_value_153 ?_
              refine u_iinc F (fun v_ => [(4, .int v_), (3, .int y9), (5, .int ((G 20) (x5_4.toInt).toNat)), (0, .ref (a 11)), (1, .int p0), (2, .int p1)]) dX3_value_154 (j := 5) rfl x5_4.toInt 1 rfl rfl (by omega) (by omega) (by decide) (fun _ => rfl) (fun y17 ey17 => ?_)
              refine g_goto F 5 dX3_value_157 (by decide) ?_
              refine g_locals [(0, .ref (a 11)), (1, .int p0), (2, .int p1), (3, .int y9), (4, .int y17)] [3, 4, 5, 1, 0] rfl ?_
              exact ih_5 y9 y17 (gu_up Gj5 21 (y10.toInt).toNat r13) (by omega) (by have h9 := ti_rng y9; omega) (by have h9 := ti_rng y17; omega) (gu_I.up (j := 21) (k := (y10.toInt).toNat) (v := r13) jI5 (ti_rng _).1 (ti_rng _).2) (gu_un.up (j := 21) (k := (y10.toInt).toNat) (v := r13) (gu_un.tr gu_un.rf (gu_un.su jU5 rfl)) (show (2100 : Nat) ∈ ([2100] : List Nat) by decide)) (fun hg => by rw [tkr_nx (f := G 20) (i := x5_4.toInt) (by omega) (by omega)]; have hsg := vSg (vAt hg (i := x5_4.toInt) (by omega) (by omega)) (by omega); exact vJoin (ev hg) (by omega) (show (gu_up Gj5 21 (y10.toInt).toNat r13) 21 = (upd (Gj5 21) (y10.toInt).toNat r13) from rfl) q16 (by omega) (by omega) (by omega) (by omega) (by omega) (by omega)) (by have h9 := (show (0 : Int) ≤ (G 11 1).toInt ∧ (G 11 1).toInt ≤ 80 from hI 11 1); (first | omega | (simp only [Int32.reduceToInt, true_and, and_true, ne_eq, not_true_eq_false, false_and, or_false, false_or, true_or, or_true, false_implies] <;> omega)))
            · refine g_iconst F 0 dX3_value_119 (by decide) ?_
              exact u_iret F hA hQ hr Gj5 (⟨jI5, (gu_un.tr gu_un.rf (gu_un.su jU5 rfl)), (fun hg => (vE3 hg (i := x5_4.toInt) (by omega) (by omega) (ev hg) (by omega) (by omega)).elim)⟩) rfl rfl dX3_value_120
          · refine g_iload_n F 4 dX3_value_87 rfl rfl ?_
            refine g_iconst F 1 dX3_value_88 (by decide) ?_
            refine v_icmp_ge F 94 dX3_value_89 (by decide) x5_3.toInt 1 rfl rfl (fun c18 => ?_) (fun c18 => ?_)
            · refine g_aload_n F 1 dX3_value_94 rfl rfl ?_
              refine xg_11_2 F i_X3 w_1 dX3_value_95 ?_
              refine g_iload_n F 4 dX3_value_98 rfl rfl ?_
              refine g_iconst F 1 dX3_value_99 (by decide) ?_
              refine u_isub F dX3_value_100 x5_3.toInt 1 rfl rfl (by omega) (by omega) (fun y19 ey19 => ?_)
              refine g_aload_n F 1 dX3_value_101 rfl rfl ?_
              refine xg_11_2 F i_X3 w_1 dX3_value_102 ?_
              refine g_iload_n F 4 dX3_value_105 rfl rfl ?_
              refine g_iconst F 1 dX3_value_106 (by decide) ?_
              refine u_isub F dX3_value_107 x5_3.toInt 1 rfl rfl (by omega) (by omega) (fun y20 ey20 => ?_)
              refine u1_iald F 21 0 xc_21 rfl y20.toInt rfl (by omega) (by omega) dX3_value_108 ((Gj5 21) ((x5_3.toInt - 1)).toNat) (by rw [show y20.toInt = (x5_3.toInt - 1) by omega] <;> rfl) ?_
              refine g_ineg F dX3_value_109 ?_
              have ng22 : -2147483648 < ((Gj5 21) ((x5_3.toInt - 1)).toNat).toInt → ((-((Gj5 21) ((x5_3.toInt - 1)).toNat)) : Int32).toInt = -((Gj5 21) ((x5_3.toInt - 1)).toNat).toInt := fun h9 => ti_neg rfl h9
              refine u_iast F 21 0 xc_21 rfl y19.toInt rfl (by omega) (by omega) (xW K a (gu_up Gj5 21 (y19.toInt).toNat (-((Gj5 21) ((x5_3.toInt - 1)).toNat)))) (xs_21 _) dX3_value_110 ?_
              refine g_goto F 154 dX3_value_111 (by decide) ?_
              refine u_iinc F (fun v_ => [(4, .int v_), (5, .int ((G 20) (x5_4.toInt).toNat)), (0, .ref (a 11)), (1, .int p0), (2, .int p1), (3, .int x5_3)]) dX3_value_154 (j := 5) rfl x5_4.toInt 1 rfl rfl (by omega) (by omega) (by decide) (fun _ => rfl) (fun y23 ey23 => ?_)
              refine g_goto F 5 dX3_value_157 (by decide) ?_
              refine g_locals [(0, .ref (a 11)), (1, .int p0), (2, .int p1), (3, .int x5_3), (4, .int y23)] [2, 3, 4, 5, 0] rfl ?_
              exact ih_5 x5_3 y23 (gu_up Gj5 21 (y19.toInt).toNat (-((Gj5 21) ((x5_3.toInt - 1)).toNat))) (by omega) (by have h9 := ti_rng x5_3; omega) (by have h9 := ti_rng y23; omega) (gu_I.up (j := 21) (k := (y19.toInt).toNat) (v := (-((Gj5 21) ((x5_3.toInt - 1)).toNat))) jI5 (ti_rng _).1 (ti_rng _).2) (gu_un.up (j := 21) (k := (y19.toInt).toNat) (v := (-((Gj5 21) ((x5_3.toInt - 1)).toNat))) (gu_un.tr gu_un.rf (gu_un.su jU5 rfl)) (show (2100 : Nat) ∈ ([2100] : List Nat) by decide)) (fun hg => by rw [tkr_nx (f := G 20) (i := x5_4.toInt) (by omega) (by omega)]; exact vNeg (ev hg) (by omega) (show (gu_up Gj5 21 (y19.toInt).toNat (-((Gj5 21) ((x5_3.toInt - 1)).toNat))) 21 = (upd (Gj5 21) (y19.toInt).toNat (-((Gj5 21) ((x5_3.toInt - 1)).toNat))) from rfl) (by omega) (by omega) (by omega)) (by have h9 := (show (0 : Int) ≤ (G 11 1).toInt ∧ (G 11 1).toInt ≤ 80 from hI 11 1); (first | omega | (simp only [Int32.reduceToInt, true_and, and_true, ne_eq, not_true_eq_false, false_and, or_false, false_or, true_or, or_true, false_implies] <;> omega)))
            · refine g_iconst F 0 dX3_value_92 (by decide) ?_
              exact u_iret F hA hQ hr Gj5 (⟨jI5, (gu_un.tr gu_un.rf (gu_un.su jU5 rfl)), (fun hg => (vE2 hg (i := x5_4.toInt) (by omega) (by omega) (ev hg) (by omega) (by omega)).elim)⟩) rfl rfl dX3_value_93
        · refine g_iload_n F 4 dX3_value_37 rfl rfl ?_
          refine g_bipush F 12 dX3_value_38 (by decide) ?_
          refine v_icmp_lt F 45 dX3_value_40 (by decide) x5_3.toInt 12 rfl rfl (fun c24 => ?_) (fun c24 => ?_)
          · refine g_aload_n F 1 dX3_value_45 rfl rfl ?_
            refine xg_11_2 F i_X3 w_1 dX3_value_46 ?_
            refine g_iload_n F 4 dX3_value_49 rfl rfl ?_
            refine g_iload F 0 dX3_value_50 rfl ?_
            refine g_iconst F (-1) dX3_value_52 (by decide) ?_
            have b25 := ti_rng ((G 20) (x5_4.toInt).toNat)
            refine v_icmp_ne F 60 dX3_value_53 (by decide) ((G 20) (x5_4.toInt).toNat).toInt (-1) rfl rfl (fun c26 => ?_) (fun c26 => ?_)
            · refine g_iload F 0 dX3_value_60 rfl ?_
              refine g_bipush F (-2) dX3_value_62 (by decide) ?_
              refine v_icmp_ne F 71 dX3_value_64 (by decide) ((G 20) (x5_4.toInt).toNat).toInt (-2) rfl rfl (fun c27 => ?_) (fun c27 => ?_)
              · refine g_iload F 0 dX3_value_71 rfl ?_
                refine u_iast F 21 0 xc_21 rfl x5_3.toInt rfl (by omega) (by omega) (xW K a (gu_up Gj5 21 (x5_3.toInt).toNat ((G 20) (x5_4.toInt).toNat))) (xs_21 _) dX3_value_73 ?_
                refine u_iinc F (fun v_ => [(3, .int v_), (5, .int ((G 20) (x5_4.toInt).toNat)), (0, .ref (a 11)), (1, .int p0), (2, .int p1), (4, .int x5_4)]) dX3_value_74 (j := 4) rfl x5_3.toInt 1 rfl rfl (by omega) (by omega) (by decide) (fun _ => rfl) (fun y28 ey28 => ?_)
                refine g_goto F 154 dX3_value_77 (by decide) ?_
                refine u_iinc F (fun v_ => [(4, .int v_), (3, .int y28), (5, .int ((G 20) (x5_4.toInt).toNat)), (0, .ref (a 11)), (1, .int p0), (2, .int p1)]) dX3_value_154 (j := 5) rfl x5_4.toInt 1 rfl rfl (by omega) (by omega) (by decide) (fun _ => rfl) (fun y29 ey29 => ?_)
                refine g_goto F 5 dX3_value_157 (by decide) ?_
                refine g_locals [(0, .ref (a 11)), (1, .int p0), (2, .int p1), (3, .int y28), (4, .int y29)] [3, 4, 5, 1, 0] rfl ?_
                exact ih_5 y28 y29 (gu_up Gj5 21 (x5_3.toInt).toNat ((G 20) (x5_4.toInt).toNat)) (by omega) (by have h9 := ti_rng y28; omega) (by have h9 := ti_rng y29; omega) (gu_I.up (j := 21) (k := (x5_3.toInt).toNat) (v := ((G 20) (x5_4.toInt).toNat)) jI5 (ti_rng _).1 (ti_rng _).2) (gu_un.up (j := 21) (k := (x5_3.toInt).toNat) (v := ((G 20) (x5_4.toInt).toNat)) (gu_un.tr gu_un.rf (gu_un.su jU5 rfl)) (show (2100 : Nat) ∈ ([2100] : List Nat) by decide)) (fun hg => by rw [tkr_nx (f := G 20) (i := x5_4.toInt) (by omega) (by omega)]; exact vPush (ev hg) (by omega) (by omega) (show (gu_up Gj5 21 (x5_3.toInt).toNat ((G 20) (x5_4.toInt).toNat)) 21 = (upd (Gj5 21) (x5_3.toInt).toNat ((G 20) (x5_4.toInt).toNat)) from rfl) (by first | exact eP_1 (by omega) | exact eP_2 (by omega) | exact eP_3 (by omega) (by omega) (by omega)) (by omega)) (by have h9 := (show (0 : Int) ≤ (G 11 1).toInt ∧ (G 11 1).toInt ≤ 80 from hI 11 1); (first | omega | (simp only [Int32.reduceToInt, true_and, and_true, ne_eq, not_true_eq_false, false_and, or_false, false_or, true_or, or_true, false_implies] <;> omega)))
              · refine g_iload_n F 3 dX3_value_67 rfl rfl ?_
                refine g_goto F 73 dX3_value_68 (by decide) ?_
                refine u_iast F 21 0 xc_21 rfl x5_3.toInt rfl (by omega) (by omega) (xW K a (gu_up Gj5 21 (x5_3.toInt).toNat p1)) (xs_21 _) dX3_value_73 ?_
                refine u_iinc F (fun v_ => [(3, .int v_), (5, .int ((G 20) (x5_4.toInt).toNat)), (0, .ref (a 11)), (1, .int p0), (2, .int p1), (4, .int x5_4)]) dX3_value_74 (j := 4) rfl x5_3.toInt 1 rfl rfl (by omega) (by omega) (by decide) (fun _ => rfl) (fun y30 ey30 => ?_)
                refine g_goto F 154 dX3_value_77 (by decide) ?_
                refine u_iinc F (fun v_ => [(4, .int v_), (3, .int y30), (5, .int ((G 20) (x5_4.toInt).toNat)), (0, .ref (a 11)), (1, .int p0), (2, .int p1)]) dX3_value_154 (j := 5) rfl x5_4.toInt 1 rfl rfl (by omega) (by omega) (by decide) (fun _ => rfl) (fun y31 ey31 => ?_)
                refine g_goto F 5 dX3_value_157 (by decide) ?_
                refine g_locals [(0, .ref (a 11)), (1, .int p0), (2, .int p1), (3, .int y30), (4, .int y31)] [3, 4, 5, 1, 0] rfl ?_
                exact ih_5 y30 y31 (gu_up Gj5 21 (x5_3.toInt).toNat p1) (by omega) (by have h9 := ti_rng y30; omega) (by have h9 := ti_rng y31; omega) (gu_I.up (j := 21) (k := (x5_3.toInt).toNat) (v := p1) jI5 (ti_rng _).1 (ti_rng _).2) (gu_un.up (j := 21) (k := (x5_3.toInt).toNat) (v := p1) (gu_un.tr gu_un.rf (gu_un.su jU5 rfl)) (show (2100 : Nat) ∈ ([2100] : List Nat) by decide)) (fun hg => by rw [tkr_nx (f := G 20) (i := x5_4.toInt) (by omega) (by omega)]; exact vPush (ev hg) (by omega) (by omega) (show (gu_up Gj5 21 (x5_3.toInt).toNat p1) 21 = (upd (Gj5 21) (x5_3.toInt).toNat p1) from rfl) (by first | exact eP_1 (by omega) | exact eP_2 (by omega) | exact eP_3 (by omega) (by omega) (by omega)) (by omega)) (by have h9 := (show (0 : Int) ≤ (G 11 1).toInt ∧ (G 11 1).toInt ≤ 80 from hI 11 1); (first | omega | (simp only [Int32.reduceToInt, true_and, and_true, ne_eq, not_true_eq_false, false_and, or_false, false_or, true_or, or_true, false_implies] <;> omega)))
            · refine g_iload_n F 2 dX3_value_56 rfl rfl ?_
              refine g_goto F 73 dX3_value_57 (by decide) ?_
              refine u_iast F 21 0 xc_21 rfl x5_3.toInt rfl (by omega) (by omega) (xW K a (gu_up Gj5 21 (x5_3.toInt).toNat p0)) (xs_21 _) dX3_value_73 ?_
              refine u_iinc F (fun v_ => [(3, .int v_), (5, .int ((G 20) (x5_4.toInt).toNat)), (0, .ref (a 11)), (1, .int p0), (2, .int p1), (4, .int x5_4)]) dX3_value_74 (j := 4) rfl x5_3.toInt 1 rfl rfl (by omega) (by omega) (by decide) (fun _ => rfl) (fun y32 ey32 => ?_)
              refine g_goto F 154 dX3_value_77 (by decide) ?_
              refine u_iinc F (fun v_ => [(4, .int v_), (3, .int y32), (5, .int ((G 20) (x5_4.toInt).toNat)), (0, .ref (a 11)), (1, .int p0), (2, .int p1)]) dX3_value_154 (j := 5) rfl x5_4.toInt 1 rfl rfl (by omega) (by omega) (by decide) (fun _ => rfl) (fun y33 ey33 => ?_)
              refine g_goto F 5 dX3_value_157 (by decide) ?_
              refine g_locals [(0, .ref (a 11)), (1, .int p0), (2, .int p1), (3, .int y32), (4, .int y33)] [3, 4, 5, 1, 0] rfl ?_
              exact ih_5 y32 y33 (gu_up Gj5 21 (x5_3.toInt).toNat p0) (by omega) (by have h9 := ti_rng y32; omega) (by have h9 := ti_rng y33; omega) (gu_I.up (j := 21) (k := (x5_3.toInt).toNat) (v := p0) jI5 (ti_rng _).1 (ti_rng _).2) (gu_un.up (j := 21) (k := (x5_3.toInt).toNat) (v := p0) (gu_un.tr gu_un.rf (gu_un.su jU5 rfl)) (show (2100 : Nat) ∈ ([2100] : List Nat) by decide)) (fun hg => by rw [tkr_nx (f := G 20) (i := x5_4.toInt) (by omega) (by omega)]; exact vPush (ev hg) (by omega) (by omega) (show (gu_up Gj5 21 (x5_3.toInt).toNat p0) 21 = (upd (Gj5 21) (x5_3.toInt).toNat p0) from rfl) (by first | exact eP_1 (by omega) | exact eP_2 (by omega) | exact eP_3 (by omega) (by omega) (by omega)) (by omega)) (by have h9 := (show (0 : Int) ≤ (G 11 1).toInt ∧ (G 11 1).toInt ≤ 80 from hI 11 1); (first | omega | (simp only [Int32.reduceToInt, true_and, and_true, ne_eq, not_true_eq_false, false_and, or_false, false_or, true_or, or_true, false_implies] <;> omega)))
          · refine g_iconst F 0 dX3_value_43 (by decide) ?_
            exact u_iret F hA hQ hr Gj5 (⟨jI5, (gu_un.tr gu_un.rf (gu_un.su jU5 rfl)), (fun hg => (vE1 hg (i := x5_4.toInt) (by omega) (by omega) (ev hg) (by omega) (by omega)).elim)⟩) rfl rfl dX3_value_44
  refine g_iconst F 0 dX3_value_0 (by decide) ?_
  refine g_istore_n F [(3, .int 0), (0, .ref (a 11)), (1, .int p0), (2, .int p1)] dX3_value_1 rfl (by decide) rfl ?_
  refine g_iconst F 0 dX3_value_2 (by decide) ?_
  refine g_istore F [(4, .int 0), (3, .int 0), (0, .ref (a 11)), (1, .int p0), (2, .int p1)] dX3_value_3 (by decide) rfl ?_
  refine g_locals [(0, .ref (a 11)), (1, .int p0), (2, .int p1), (3, .int 0), (4, .int 0)] [2, 3, 4, 1, 0] rfl ?_
  exact J_5 _ 0 0 G (Nat.lt_succ_self _) (by decide) (by decide) hI gu_un.rf (fun _ => rfl) (by have h9 := (show (0 : Int) ≤ (G 11 1).toInt ∧ (G 11 1).toInt ≤ 80 from hI 11 1); (first | omega | (simp only [Int32.reduceToInt, true_and, and_true, ne_eq, not_true_eq_false, false_and, or_false, false_or, true_or, or_true, false_implies] <;> omega)))


set_option maxHeartbeats 4000000 in
set_option maxRecDepth 100000 in
theorem S_X3_value_13 (l : Launch) (D : va_G) (K : Nat → ClassId) (a : Nat → Nat) (G : gS) (p0 : Int32) (s0 : Int) (p1 : Int32) (s1 : Int) (e0 : p0.toInt = s0) (e1 : p1.toInt = s1) (hI : xI G) (sz : Nat) : Ki l yX3_value wsX3_value 2 62 0 0 D [.ref (a 13), .int p0, .int p1] (xW K a G) (tK K) sz (fun (r : Int32) (G' : gS) => (xI G') ∧ (gu_un xcd [2700] G G') ∧ ((gcOK (tkr (G 26) ((G 13 1).toInt).toNat) → r.toInt = (eV p0 p1 (tkr (G 26) ((G 13 1).toInt).toNat)).toInt))) (fun (G' : gS) => (xW K a G')) (fun _ => (tK K)) := by
  unfold Ki
  refine g_ofW (cc := cX3_value) (lv := [(0, .ref (a 13)), (1, .int p0), (2, .int p1)]) (by decide) rfl (Nat.le_of_ble_eq_true rfl) rfl ?_
  intro p e s m args below meth c A Q hA hQ F hr hnm
  have hts := F.2.2.2.2.1
  have w_0 : (Cond.fieldLink RX3 21 "QuietCut$Formula" "length" "I").before args s = true := hts _ (List.mem_of_getElem? (i := 1) rfl)
  have i_X3 : ∀ w ∈ u_ws RX3 TX3 9, w ∈ wsX3_value := fun _ h => List.mem_cons_of_mem _ (List.mem_append_right _ h)
  have w_1 : (Cond.fieldLink RX3 15 "QuietCut$Formula" "stack" "[I").before args s = true := hts _ (List.mem_of_getElem? (i := 3) rfl)
  have w_2 : (Cond.fieldLink RX3 11 "QuietCut$Formula" "codes" "[I").before args s = true := hts _ (List.mem_of_getElem? (i := 2) rfl)
  have rg0 : -2147483648 ≤ s0 ∧ s0 ≤ 2147483647 := e0 ▸ ti_rng p0
  have rg1 : -2147483648 ≤ s1 ∧ s1 ≤ 2147483647 := e1 ▸ ti_rng p1
  have b1 : (0 : Int) ≤ (G 13 1).toInt ∧ (G 13 1).toInt ≤ 80 := hI 13 1
  have J_5 : ∀ (fuel : Nat) (x5_3 : Int32) (x5_4 : Int32) (Gj5 : gS), (2147483647 - x5_4.toInt).toNat < fuel → (0 ≤ x5_3.toInt ∧ x5_3.toInt ≤ 12) → (0 ≤ x5_4.toInt ∧ x5_4.toInt ≤ 80) → (xI Gj5) → (gu_un xcd [2700] G Gj5) → (gcOK (tkr (G 26) ((G 13 1).toInt).toNat) → skr (Gj5 27) (x5_3.toInt).toNat = eS p0 p1 (tkr (G 26) (x5_4.toInt).toNat)) → ((x5_4.toInt ≤ (G 13 1).toInt)) → gG p l e (gR 2 0 0 62) s m args below meth c D A 6 Q 0 0 (xW K a Gj5) (tK K) [(0, .ref (a 13)), (1, .int p0), (2, .int p1), (3, .int x5_3), (4, .int x5_4)] 5 [] := by
    intro fuel
    induction fuel with
    | zero => intro x5_3 x5_4 Gj5 hm; exact absurd hm (Nat.not_lt_zero _)
    | succ fuel_5 ih_5 =>
      intro x5_3 x5_4 Gj5 hm_5 h5_3 h5_4 jI5 jU5 ev il
      refine g_iload F 4 dX3_value_5 rfl ?_
      refine g_aload_n F 0 dX3_value_7 rfl rfl ?_
      refine xg_13_1 F i_X3 w_0 dX3_value_8 (G 13 1) (jU5 13 1 (by decide)) ?_
      refine v_icmp_ge F 160 dX3_value_11 (by decide) x5_4.toInt (G 13 1).toInt rfl rfl (fun c2 => ?_) (fun c2 => ?_)
      · refine g_iload_n F 3 dX3_value_160 rfl rfl ?_
        refine g_iconst F 1 dX3_value_161 (by decide) ?_
        refine v_icmp_ne F 174 dX3_value_162 (by decide) x5_3.toInt 1 rfl rfl (fun c3 => ?_) (fun c3 => ?_)
        · refine g_iconst F 0 dX3_value_174 (by decide) ?_
          exact u_iret F hA hQ hr Gj5 (⟨jI5, (gu_un.tr gu_un.rf (gu_un.su jU5 rfl)), (fun hg => by have h9 := vFin hg (by omega) (i := x5_4.toInt) (by omega) (ev hg); first | (rw [h9.2]; done) | (have h8 := h9.1; exfalso; omega))⟩) rfl rfl dX3_value_175
        · refine g_aload_n F 0 dX3_value_165 rfl rfl ?_
          refine xg_13_2 F i_X3 w_1 dX3_value_166 ?_
          refine g_iconst F 0 dX3_value_169 (by decide) ?_
          refine u1_iald F 27 0 xc_27 rfl 0 rfl (by decide) (by decide) dX3_value_170 (Gj5 27 0) (rfl) ?_
          refine g_goto F 175 dX3_value_171 (by decide) ?_
          exact u_iret F hA hQ hr Gj5 (⟨jI5, (gu_un.tr gu_un.rf (gu_un.su jU5 rfl)), (fun hg => by have h9 := vFin hg (by omega) (i := x5_4.toInt) (by omega) (ev hg); first | (rw [h9.2]; done) | (have h8 := h9.1; exfalso; omega))⟩) rfl rfl dX3_value_175
      · refine g_iload F 4 dX3_value_14 rfl ?_
        refine g_bipush F 80 dX3_value_16 (by decide) ?_
        refine v_icmp_ge F 160 dX3_value_18 (by decide) x5_4.toInt 80 rfl rfl (fun c4 => absurd c4 (by omega)) (fun c4 => ?_)
        refine g_aload_n F 0 dX3_value_21 rfl rfl ?_
        refine xg_13_0 F i_X3 w_2 dX3_value_22 ?_
        refine g_iload F 4 dX3_value_25 rfl ?_
        refine u1_iald F 26 0 xc_26 rfl x5_4.toInt rfl (by omega) (by omega) dX3_value_27 ((G 26) (x5_4.toInt).toNat) (congrFun ((show Gj5 26 = G 26 from funext fun k_ => jU5 26 k_ (show (2600 : Nat) ∉ ([2700] : List Nat) by decide))) _) ?_
        refine g_istore F [(5, .int ((G 26) (x5_4.toInt).toNat)), (0, .ref (a 13)), (1, .int p0), (2, .int p1), (3, .int x5_3), (4, .int x5_4)] dX3_value_28 (by decide) rfl ?_
        refine g_iload F 0 dX3_value_30 rfl ?_
        refine g_bipush F (-2) dX3_value_32 (by decide) ?_
        refine v_icmp_lt F 80 dX3_value_34 (by decide) ((G 26) (x5_4.toInt).toNat).toInt (-2) rfl rfl (fun c5 => ?_) (fun c5 => ?_)
        · refine g_iload F 0 dX3_value_80 rfl ?_
          refine g_bipush F (-3) dX3_value_82 (by decide) ?_
          have b6 := ti_rng ((G 26) (x5_4.toInt).toNat)
          refine v_icmp_ne F 114 dX3_value_84 (by decide) ((G 26) (x5_4.toInt).toNat).toInt (-3) rfl rfl (fun c7 => ?_) (fun c7 => ?_)
          · refine g_iload_n F 4 dX3_value_114 rfl rfl ?_
            refine g_iconst F 2 dX3_value_115 (by decide) ?_
            refine v_icmp_ge F 121 dX3_value_116 (by decide) x5_3.toInt 2 rfl rfl (fun c8 => ?_) (fun c8 => ?_)
            · refine u_iinc F (fun v_ => [(3, .int v_), (5, .int ((G 26) (x5_4.toInt).toNat)), (0, .ref (a 13)), (1, .int p0), (2, .int p1), (4, .int x5_4)]) dX3_value_121 (j := 4) rfl x5_3.toInt (-1) rfl rfl (by omega) (by omega) (by decide) (fun _ => rfl) (fun y9 ey9 => ?_)
              refine g_aload_n F 2 dX3_value_124 rfl rfl ?_
              refine xg_13_2 F i_X3 w_1 dX3_value_125 ?_
              refine g_iload_n F 0 dX3_value_128 rfl rfl ?_
              refine g_iconst F 1 dX3_value_129 (by decide) ?_
              refine u_isub F dX3_value_130 y9.toInt 1 rfl rfl (by omega) (by omega) (fun y10 ey10 => ?_)
              refine g_bipush F (-3) dX3_value_131 (by decide) ?_
              refine g_iload F 1 dX3_value_133 rfl ?_
              refine u_isub F dX3_value_135 (-3) ((G 26) (x5_4.toInt).toNat).toInt rfl rfl (by omega) (by omega) (fun y11 ey11 => ?_)
              refine g_aload_n F 2 dX3_value_136 rfl rfl ?_
              refine xg_13_2 F i_X3 w_1 dX3_value_137 ?_
              refine g_iload_n F 0 dX3_value_140 rfl rfl ?_
              refine g_iconst F 1 dX3_value_141 (by decide) ?_
              refine u_isub F dX3_value_142 y9.toInt 1 rfl rfl (by omega) (by omega) (fun y12 ey12 => ?_)
              refine u1_iald F 27 0 xc_27 rfl y12.toInt rfl (by omega) (by omega) dX3_value_143 ((Gj5 27) ((y9.toInt - 1)).toNat) (by rw [show y12.toInt = (y9.toInt - 1) by omega] <;> rfl) ?_
              refine g_aload_n F 2 dX3_value_144 rfl rfl ?_
              refine xg_13_2 F i_X3 w_1 dX3_value_145 ?_
              refine g_iload_n F 0 dX3_value_148 rfl rfl ?_
              refine u1_iald F 27 0 xc_27 rfl y9.toInt rfl (by omega) (by omega) dX3_value_149 ((Gj5 27) (y9.toInt).toNat) (rfl) ?_
              refine u_call0 (k := 0) (n := 0) (As := [.int y11, .int ((Gj5 27) ((y9.toInt - 1)).toNat), .int ((Gj5 27) (y9.toInt).toNat)]) (st := [.int y10, .ref (a 27)]) F (fun sz => S_X3_joined l D y11 y11.toInt ((Gj5 27) ((y9.toInt - 1)).toNat) ((Gj5 27) ((y9.toInt - 1)).toNat).toInt ((Gj5 27) (y9.toInt).toNat) ((Gj5 27) (y9.toInt).toNat).toInt rfl rfl rfl sz) (va_cwS 3 hts gX3_value_X3_joined rfl rfl rfl (by decide +kernel) ⟨Nat.le_of_ble_eq_true rfl, Nat.le_of_ble_eq_true rfl⟩) rfl (Nat.le_of_ble_eq_true rfl) ⟨Nat.zero_le _, Nat.zero_le _⟩ dX3_value_150 (fun r13 _ hw14 => ?_)
              have q16 : (r13.toInt = (eJ y11.toInt ((Gj5 27) ((y9.toInt - 1)).toNat) ((Gj5 27) (y9.toInt).toNat)).toInt) := hw14
              clear hw14
              refine u_iast F 27 0 xc_27 rfl y10.toInt rfl (by omega) (by omega) (xW K a (gu_up Gj5 27 (y10.toInt).toNat r13)) (xs_27 _) dX3_value_153 ?_
              refine u_iinc F (fun v_ => [(4, .int v_), (3, .int y9), (5, .int ((G 26) (x5_4.toInt).toNat)), (0, .ref (a 13)), (1, .int p0), (2, .int p1)]) dX3_value_154 (j := 5) rfl x5_4.toInt 1 rfl rfl (by omega) (by omega) (by decide) (fun _ => rfl) (fun y17 ey17 => ?_)
              refine g_goto F 5 dX3_value_157 (by decide) ?_
              refine g_locals [(0, .ref (a 13)), (1, .int p0), (2, .int p1), (3, .int y9), (4, .int y17)] [3, 4, 5, 1, 0] rfl ?_
              exact ih_5 y9 y17 (gu_up Gj5 27 (y10.toInt).toNat r13) (by omega) (by have h9 := ti_rng y9; omega) (by have h9 := ti_rng y17; omega) (gu_I.up (j := 27) (k := (y10.toInt).toNat) (v := r13) jI5 (ti_rng _).1 (ti_rng _).2) (gu_un.up (j := 27) (k := (y10.toInt).toNat) (v := r13) (gu_un.tr gu_un.rf (gu_un.su jU5 rfl)) (show (2700 : Nat) ∈ ([2700] : List Nat) by decide)) (fun hg => by rw [tkr_nx (f := G 26) (i := x5_4.toInt) (by omega) (by omega)]; have hsg := vSg (vAt hg (i := x5_4.toInt) (by omega) (by omega)) (by omega); exact vJoin (ev hg) (by omega) (show (gu_up Gj5 27 (y10.toInt).toNat r13) 27 = (upd (Gj5 27) (y10.toInt).toNat r13) from rfl) q16 (by omega) (by omega) (by omega) (by omega) (by omega) (by omega)) (by have h9 := (show (0 : Int) ≤ (G 13 1).toInt ∧ (G 13 1).toInt ≤ 80 from hI 13 1); (first | omega | (simp only [Int32.reduceToInt, true_and, and_true, ne_eq, not_true_eq_false, false_and, or_false, false_or, true_or, or_true, false_implies] <;> omega)))
            · refine g_iconst F 0 dX3_value_119 (by decide) ?_
              exact u_iret F hA hQ hr Gj5 (⟨jI5, (gu_un.tr gu_un.rf (gu_un.su jU5 rfl)), (fun hg => (vE3 hg (i := x5_4.toInt) (by omega) (by omega) (ev hg) (by omega) (by omega)).elim)⟩) rfl rfl dX3_value_120
          · refine g_iload_n F 4 dX3_value_87 rfl rfl ?_
            refine g_iconst F 1 dX3_value_88 (by decide) ?_
            refine v_icmp_ge F 94 dX3_value_89 (by decide) x5_3.toInt 1 rfl rfl (fun c18 => ?_) (fun c18 => ?_)
            · refine g_aload_n F 1 dX3_value_94 rfl rfl ?_
              refine xg_13_2 F i_X3 w_1 dX3_value_95 ?_
              refine g_iload_n F 4 dX3_value_98 rfl rfl ?_
              refine g_iconst F 1 dX3_value_99 (by decide) ?_
              refine u_isub F dX3_value_100 x5_3.toInt 1 rfl rfl (by omega) (by omega) (fun y19 ey19 => ?_)
              refine g_aload_n F 1 dX3_value_101 rfl rfl ?_
              refine xg_13_2 F i_X3 w_1 dX3_value_102 ?_
              refine g_iload_n F 4 dX3_value_105 rfl rfl ?_
              refine g_iconst F 1 dX3_value_106 (by decide) ?_
              refine u_isub F dX3_value_107 x5_3.toInt 1 rfl rfl (by omega) (by omega) (fun y20 ey20 => ?_)
              refine u1_iald F 27 0 xc_27 rfl y20.toInt rfl (by omega) (by omega) dX3_value_108 ((Gj5 27) ((x5_3.toInt - 1)).toNat) (by rw [show y20.toInt = (x5_3.toInt - 1) by omega] <;> rfl) ?_
              refine g_ineg F dX3_value_109 ?_
              have ng22 : -2147483648 < ((Gj5 27) ((x5_3.toInt - 1)).toNat).toInt → ((-((Gj5 27) ((x5_3.toInt - 1)).toNat)) : Int32).toInt = -((Gj5 27) ((x5_3.toInt - 1)).toNat).toInt := fun h9 => ti_neg rfl h9
              refine u_iast F 27 0 xc_27 rfl y19.toInt rfl (by omega) (by omega) (xW K a (gu_up Gj5 27 (y19.toInt).toNat (-((Gj5 27) ((x5_3.toInt - 1)).toNat)))) (xs_27 _) dX3_value_110 ?_
              refine g_goto F 154 dX3_value_111 (by decide) ?_
              refine u_iinc F (fun v_ => [(4, .int v_), (5, .int ((G 26) (x5_4.toInt).toNat)), (0, .ref (a 13)), (1, .int p0), (2, .int p1), (3, .int x5_3)]) dX3_value_154 (j := 5) rfl x5_4.toInt 1 rfl rfl (by omega) (by omega) (by decide) (fun _ => rfl) (fun y23 ey23 => ?_)
              refine g_goto F 5 dX3_value_157 (by decide) ?_
              refine g_locals [(0, .ref (a 13)), (1, .int p0), (2, .int p1), (3, .int x5_3), (4, .int y23)] [2, 3, 4, 5, 0] rfl ?_
              exact ih_5 x5_3 y23 (gu_up Gj5 27 (y19.toInt).toNat (-((Gj5 27) ((x5_3.toInt - 1)).toNat))) (by omega) (by have h9 := ti_rng x5_3; omega) (by have h9 := ti_rng y23; omega) (gu_I.up (j := 27) (k := (y19.toInt).toNat) (v := (-((Gj5 27) ((x5_3.toInt - 1)).toNat))) jI5 (ti_rng _).1 (ti_rng _).2) (gu_un.up (j := 27) (k := (y19.toInt).toNat) (v := (-((Gj5 27) ((x5_3.toInt - 1)).toNat))) (gu_un.tr gu_un.rf (gu_un.su jU5 rfl)) (show (2700 : Nat) ∈ ([2700] : List Nat) by decide)) (fun hg => by rw [tkr_nx (f := G 26) (i := x5_4.toInt) (by omega) (by omega)]; exact vNeg (ev hg) (by omega) (show (gu_up Gj5 27 (y19.toInt).toNat (-((Gj5 27) ((x5_3.toInt - 1)).toNat))) 27 = (upd (Gj5 27) (y19.toInt).toNat (-((Gj5 27) ((x5_3.toInt - 1)).toNat))) from rfl) (by omega) (by omega) (by omega)) (by have h9 := (show (0 : Int) ≤ (G 13 1).toInt ∧ (G 13 1).toInt ≤ 80 from hI 13 1); (first | omega | (simp only [Int32.reduceToInt, true_and, and_true, ne_eq, not_true_eq_false, false_and, or_false, false_or, true_or, or_true, false_implies] <;> omega)))
            · refine g_iconst F 0 dX3_value_92 (by decide) ?_
              exact u_iret F hA hQ hr Gj5 (⟨jI5, (gu_un.tr gu_un.rf (gu_un.su jU5 rfl)), (fun hg => (vE2 hg (i := x5_4.toInt) (by omega) (by omega) (ev hg) (by omega) (by omega)).elim)⟩) rfl rfl dX3_value_93
        · refine g_iload_n F 4 dX3_value_37 rfl rfl ?_
          refine g_bipush F 12 dX3_value_38 (by decide) ?_
          refine v_icmp_lt F 45 dX3_value_40 (by decide) x5_3.toInt 12 rfl rfl (fun c24 => ?_) (fun c24 => ?_)
          · refine g_aload_n F 1 dX3_value_45 rfl rfl ?_
            refine xg_13_2 F i_X3 w_1 dX3_value_46 ?_
            refine g_iload_n F 4 dX3_value_49 rfl rfl ?_
            refine g_iload F 0 dX3_value_50 rfl ?_
            refine g_iconst F (-1) dX3_value_52 (by decide) ?_
            have b25 := ti_rng ((G 26) (x5_4.toInt).toNat)
            refine v_icmp_ne F 60 dX3_value_53 (by decide) ((G 26) (x5_4.toInt).toNat).toInt (-1) rfl rfl (fun c26 => ?_) (fun c26 => ?_)
            · refine g_iload F 0 dX3_value_60 rfl ?_
              refine g_bipush F (-2) dX3_value_62 (by decide) ?_
              refine v_icmp_ne F 71 dX3_value_64 (by decide) ((G 26) (x5_4.toInt).toNat).toInt (-2) rfl rfl (fun c27 => ?_) (fun c27 => ?_)
              · refine g_iload F 0 dX3_value_71 rfl ?_
                refine u_iast F 27 0 xc_27 rfl x5_3.toInt rfl (by omega) (by omega) (xW K a (gu_up Gj5 27 (x5_3.toInt).toNat ((G 26) (x5_4.toInt).toNat))) (xs_27 _) dX3_value_73 ?_
                refine u_iinc F (fun v_ => [(3, .int v_), (5, .int ((G 26) (x5_4.toInt).toNat)), (0, .ref (a 13)), (1, .int p0), (2, .int p1), (4, .int x5_4)]) dX3_value_74 (j := 4) rfl x5_3.toInt 1 rfl rfl (by omega) (by omega) (by decide) (fun _ => rfl) (fun y28 ey28 => ?_)
                refine g_goto F 154 dX3_value_77 (by decide) ?_
                refine u_iinc F (fun v_ => [(4, .int v_), (3, .int y28), (5, .int ((G 26) (x5_4.toInt).toNat)), (0, .ref (a 13)), (1, .int p0), (2, .int p1)]) dX3_value_154 (j := 5) rfl x5_4.toInt 1 rfl rfl (by omega) (by omega) (by decide) (fun _ => rfl) (fun y29 ey29 => ?_)
                refine g_goto F 5 dX3_value_157 (by decide) ?_
                refine g_locals [(0, .ref (a 13)), (1, .int p0), (2, .int p1), (3, .int y28), (4, .int y29)] [3, 4, 5, 1, 0] rfl ?_
                exact ih_5 y28 y29 (gu_up Gj5 27 (x5_3.toInt).toNat ((G 26) (x5_4.toInt).toNat)) (by omega) (by have h9 := ti_rng y28; omega) (by have h9 := ti_rng y29; omega) (gu_I.up (j := 27) (k := (x5_3.toInt).toNat) (v := ((G 26) (x5_4.toInt).toNat)) jI5 (ti_rng _).1 (ti_rng _).2) (gu_un.up (j := 27) (k := (x5_3.toInt).toNat) (v := ((G 26) (x5_4.toInt).toNat)) (gu_un.tr gu_un.rf (gu_un.su jU5 rfl)) (show (2700 : Nat) ∈ ([2700] : List Nat) by decide)) (fun hg => by rw [tkr_nx (f := G 26) (i := x5_4.toInt) (by omega) (by omega)]; exact vPush (ev hg) (by omega) (by omega) (show (gu_up Gj5 27 (x5_3.toInt).toNat ((G 26) (x5_4.toInt).toNat)) 27 = (upd (Gj5 27) (x5_3.toInt).toNat ((G 26) (x5_4.toInt).toNat)) from rfl) (by first | exact eP_1 (by omega) | exact eP_2 (by omega) | exact eP_3 (by omega) (by omega) (by omega)) (by omega)) (by have h9 := (show (0 : Int) ≤ (G 13 1).toInt ∧ (G 13 1).toInt ≤ 80 from hI 13 1); (first | omega | (simp only [Int32.reduceToInt, true_and, and_true, ne_eq, not_true_eq_false, false_and, or_false, false_or, true_or, or_true, false_implies] <;> omega)))
              · refine g_iload_n F 3 dX3_value_67 rfl rfl ?_
                refine g_goto F 73 dX3_value_68 (by decide) ?_
                refine u_iast F 27 0 xc_27 rfl x5_3.toInt rfl (by omega) (by omega) (xW K a (gu_up Gj5 27 (x5_3.toInt).toNat p1)) (xs_27 _) dX3_value_73 ?_
                refine u_iinc F (fun v_ => [(3, .int v_), (5, .int ((G 26) (x5_4.toInt).toNat)), (0, .ref (a 13)), (1, .int p0), (2, .int p1), (4, .int x5_4)]) dX3_value_74 (j := 4) rfl x5_3.toInt 1 rfl rfl (by omega) (by omega) (by decide) (fun _ => rfl) (fun y30 ey30 => ?_)
                refine g_goto F 154 dX3_value_77 (by decide) ?_
                refine u_iinc F (fun v_ => [(4, .int v_), (3, .int y30), (5, .int ((G 26) (x5_4.toInt).toNat)), (0, .ref (a 13)), (1, .int p0), (2, .int p1)]) dX3_value_154 (j := 5) rfl x5_4.toInt 1 rfl rfl (by omega) (by omega) (by decide) (fun _ => rfl) (fun y31 ey31 => ?_)
                refine g_goto F 5 dX3_value_157 (by decide) ?_
                refine g_locals [(0, .ref (a 13)), (1, .int p0), (2, .int p1), (3, .int y30), (4, .int y31)] [3, 4, 5, 1, 0] rfl ?_
                exact ih_5 y30 y31 (gu_up Gj5 27 (x5_3.toInt).toNat p1) (by omega) (by have h9 := ti_rng y30; omega) (by have h9 := ti_rng y31; omega) (gu_I.up (j := 27) (k := (x5_3.toInt).toNat) (v := p1) jI5 (ti_rng _).1 (ti_rng _).2) (gu_un.up (j := 27) (k := (x5_3.toInt).toNat) (v := p1) (gu_un.tr gu_un.rf (gu_un.su jU5 rfl)) (show (2700 : Nat) ∈ ([2700] : List Nat) by decide)) (fun hg => by rw [tkr_nx (f := G 26) (i := x5_4.toInt) (by omega) (by omega)]; exact vPush (ev hg) (by omega) (by omega) (show (gu_up Gj5 27 (x5_3.toInt).toNat p1) 27 = (upd (Gj5 27) (x5_3.toInt).toNat p1) from rfl) (by first | exact eP_1 (by omega) | exact eP_2 (by omega) | exact eP_3 (by omega) (by omega) (by omega)) (by omega)) (by have h9 := (show (0 : Int) ≤ (G 13 1).toInt ∧ (G 13 1).toInt ≤ 80 from hI 13 1); (first | omega | (simp only [Int32.reduceToInt, true_and, and_true, ne_eq, not_true_eq_false, false_and, or_false, false_or, true_or, or_true, false_implies] <;> omega)))
            · refine g_iload_n F 2 dX3_value_56 rfl rfl ?_
              refine g_goto F 73 dX3_value_57 (by decide) ?_
              refine u_iast F 27 0 xc_27 rfl x5_3.toInt rfl (by omega) (by omega) (xW K a (gu_up Gj5 27 (x5_3.toInt).toNat p0)) (xs_27 _) dX3_value_73 ?_
              refine u_iinc F (fun v_ => [(3, .int v_), (5, .int ((G 26) (x5_4.toInt).toNat)), (0, .ref (a 13)), (1, .int p0), (2, .int p1), (4, .int x5_4)]) dX3_value_74 (j := 4) rfl x5_3.toInt 1 rfl rfl (by omega) (by omega) (by decide) (fun _ => rfl) (fun y32 ey32 => ?_)
              refine g_goto F 154 dX3_value_77 (by decide) ?_
              refine u_iinc F (fun v_ => [(4, .int v_), (3, .int y32), (5, .int ((G 26) (x5_4.toInt).toNat)), (0, .ref (a 13)), (1, .int p0), (2, .int p1)]) dX3_value_154 (j := 5) rfl x5_4.toInt 1 rfl rfl (by omega) (by omega) (by decide) (fun _ => rfl) (fun y33 ey33 => ?_)
              refine g_goto F 5 dX3_value_157 (by decide) ?_
              refine g_locals [(0, .ref (a 13)), (1, .int p0), (2, .int p1), (3, .int y32), (4, .int y33)] [3, 4, 5, 1, 0] rfl ?_
              exact ih_5 y32 y33 (gu_up Gj5 27 (x5_3.toInt).toNat p0) (by omega) (by have h9 := ti_rng y32; omega) (by have h9 := ti_rng y33; omega) (gu_I.up (j := 27) (k := (x5_3.toInt).toNat) (v := p0) jI5 (ti_rng _).1 (ti_rng _).2) (gu_un.up (j := 27) (k := (x5_3.toInt).toNat) (v := p0) (gu_un.tr gu_un.rf (gu_un.su jU5 rfl)) (show (2700 : Nat) ∈ ([2700] : List Nat) by decide)) (fun hg => by rw [tkr_nx (f := G 26) (i := x5_4.toInt) (by omega) (by omega)]; exact vPush (ev hg) (by omega) (by omega) (show (gu_up Gj5 27 (x5_3.toInt).toNat p0) 27 = (upd (Gj5 27) (x5_3.toInt).toNat p0) from rfl) (by first | exact eP_1 (by omega) | exact eP_2 (by omega) | exact eP_3 (by omega) (by omega) (by omega)) (by omega)) (by have h9 := (show (0 : Int) ≤ (G 13 1).toInt ∧ (G 13 1).toInt ≤ 80 from hI 13 1); (first | omega | (simp only [Int32.reduceToInt, true_and, and_true, ne_eq, not_true_eq_false, false_and, or_false, false_or, true_or, or_true, false_implies] <;> omega)))
          · refine g_iconst F 0 dX3_value_43 (by decide) ?_
            exact u_iret F hA hQ hr Gj5 (⟨jI5, (gu_un.tr gu_un.rf (gu_un.su jU5 rfl)), (fun hg => (vE1 hg (i := x5_4.toInt) (by omega) (by omega) (ev hg) (by omega) (by omega)).elim)⟩) rfl rfl dX3_value_44
  refine g_iconst F 0 dX3_value_0 (by decide) ?_
  refine g_istore_n F [(3, .int 0), (0, .ref (a 13)), (1, .int p0), (2, .int p1)] dX3_value_1 rfl (by decide) rfl ?_
  refine g_iconst F 0 dX3_value_2 (by decide) ?_
  refine g_istore F [(4, .int 0), (3, .int 0), (0, .ref (a 13)), (1, .int p0), (2, .int p1)] dX3_value_3 (by decide) rfl ?_
  refine g_locals [(0, .ref (a 13)), (1, .int p0), (2, .int p1), (3, .int 0), (4, .int 0)] [2, 3, 4, 1, 0] rfl ?_
  exact J_5 _ 0 0 G (Nat.lt_succ_self _) (by decide) (by decide) hI gu_un.rf (fun _ => rfl) (by have h9 := (show (0 : Int) ≤ (G 13 1).toInt ∧ (G 13 1).toInt ≤ 80 from hI 13 1); (first | omega | (simp only [Int32.reduceToInt, true_and, and_true, ne_eq, not_true_eq_false, false_and, or_false, false_or, true_or, or_true, false_implies] <;> omega)))

theorem dX5_bite_0 : decode cX5_bite 0 = .ok (.aload_n 0, 1) := by decide +kernel
theorem dX5_bite_1 : decode cX5_bite 1 = .ok (.getfield 29, 3) := by decide +kernel
theorem dX5_bite_4 : decode cX5_bite 4 = .ok (.getfield 56, 3) := by decide +kernel
theorem dX5_bite_7 : decode cX5_bite 7 = .ok (.iconst 0, 1) := by decide +kernel
theorem dX5_bite_8 : decode cX5_bite 8 = .ok (.iaload, 1) := by decide +kernel
theorem dX5_bite_9 : decode cX5_bite 9 = .ok (.istore 4, 2) := by decide +kernel
theorem dX5_bite_11 : decode cX5_bite 11 = .ok (.iconst 0, 1) := by decide +kernel
theorem dX5_bite_12 : decode cX5_bite 12 = .ok (.istore 5, 2) := by decide +kernel
theorem dX5_bite_14 : decode cX5_bite 14 = .ok (.iconst 0, 1) := by decide +kernel
theorem dX5_bite_15 : decode cX5_bite 15 = .ok (.istore 6, 2) := by decide +kernel
theorem dX5_bite_17 : decode cX5_bite 17 = .ok (.iload 6, 2) := by decide +kernel
theorem dX5_bite_19 : decode cX5_bite 19 = .ok (.aload_n 0, 1) := by decide +kernel
theorem dX5_bite_20 : decode cX5_bite 20 = .ok (.getfield 53, 3) := by decide +kernel
theorem dX5_bite_23 : decode cX5_bite 23 = .ok (.if_icmp .ge 186, 3) := by decide +kernel
theorem dX5_bite_26 : decode cX5_bite 26 = .ok (.iload 6, 2) := by decide +kernel
theorem dX5_bite_28 : decode cX5_bite 28 = .ok (.iconst 4, 1) := by decide +kernel
theorem dX5_bite_29 : decode cX5_bite 29 = .ok (.if_icmp .ge 180, 3) := by decide +kernel
theorem dX5_bite_32 : decode cX5_bite 32 = .ok (.iload_n 1, 1) := by decide +kernel
theorem dX5_bite_33 : decode cX5_bite 33 = .ok (.aload_n 0, 1) := by decide +kernel
theorem dX5_bite_34 : decode cX5_bite 34 = .ok (.getfield 11, 3) := by decide +kernel
theorem dX5_bite_37 : decode cX5_bite 37 = .ok (.iload 6, 2) := by decide +kernel
theorem dX5_bite_39 : decode cX5_bite 39 = .ok (.iaload, 1) := by decide +kernel
theorem dX5_bite_40 : decode cX5_bite 40 = .ok (.iadd, 1) := by decide +kernel
theorem dX5_bite_41 : decode cX5_bite 41 = .ok (.iconst 1, 1) := by decide +kernel
theorem dX5_bite_42 : decode cX5_bite 42 = .ok (.iload 4, 2) := by decide +kernel
theorem dX5_bite_44 : decode cX5_bite 44 = .ok (.invokestatic 146, 3) := by decide +kernel
theorem dX5_bite_47 : decode cX5_bite 47 = .ok (.invokestatic 151, 3) := by decide +kernel
theorem dX5_bite_50 : decode cX5_bite 50 = .ok (.istore 7, 2) := by decide +kernel
theorem dX5_bite_52 : decode cX5_bite 52 = .ok (.iload 7, 2) := by decide +kernel
theorem dX5_bite_54 : decode cX5_bite 54 = .ok (.bipush 16, 2) := by decide +kernel
theorem dX5_bite_56 : decode cX5_bite 56 = .ok (.if_icmp .ge 20, 3) := by decide +kernel
theorem dX5_bite_59 : decode cX5_bite 59 = .ok (.aload_n 0, 1) := by decide +kernel
theorem dX5_bite_60 : decode cX5_bite 60 = .ok (.getfield 17, 3) := by decide +kernel
theorem dX5_bite_63 : decode cX5_bite 63 = .ok (.iload 7, 2) := by decide +kernel
theorem dX5_bite_65 : decode cX5_bite 65 = .ok (.iaload, 1) := by decide +kernel
theorem dX5_bite_66 : decode cX5_bite 66 = .ok (.iload_n 3, 1) := by decide +kernel
theorem dX5_bite_67 : decode cX5_bite 67 = .ok (.isub, 1) := by decide +kernel
theorem dX5_bite_68 : decode cX5_bite 68 = .ok (.aload_n 0, 1) := by decide +kernel
theorem dX5_bite_69 : decode cX5_bite 69 = .ok (.getfield 131, 3) := by decide +kernel
theorem dX5_bite_72 : decode cX5_bite 72 = .ok (.isub, 1) := by decide +kernel
theorem dX5_bite_73 : decode cX5_bite 73 = .ok (.goto 4, 3) := by decide +kernel
theorem dX5_bite_76 : decode cX5_bite 76 = .ok (.iconst 0, 1) := by decide +kernel
theorem dX5_bite_77 : decode cX5_bite 77 = .ok (.istore 8, 2) := by decide +kernel
theorem dX5_bite_79 : decode cX5_bite 79 = .ok (.iload 8, 2) := by decide +kernel
theorem dX5_bite_81 : decode cX5_bite 81 = .ok (.ifCond .gt 16, 3) := by decide +kernel
theorem dX5_bite_84 : decode cX5_bite 84 = .ok (.aload_n 0, 1) := by decide +kernel
theorem dX5_bite_85 : decode cX5_bite 85 = .ok (.dup, 1) := by decide +kernel
theorem dX5_bite_86 : decode cX5_bite 86 = .ok (.getfield 140, 3) := by decide +kernel
theorem dX5_bite_89 : decode cX5_bite 89 = .ok (.iconst 1, 1) := by decide +kernel
theorem dX5_bite_90 : decode cX5_bite 90 = .ok (.iadd, 1) := by decide +kernel
theorem dX5_bite_91 : decode cX5_bite 91 = .ok (.putfield 140, 3) := by decide +kernel
theorem dX5_bite_94 : decode cX5_bite 94 = .ok (.goto 109, 3) := by decide +kernel
theorem dX5_bite_97 : decode cX5_bite 97 = .ok (.iload 5, 2) := by decide +kernel
theorem dX5_bite_99 : decode cX5_bite 99 = .ok (.aload_n 0, 1) := by decide +kernel
theorem dX5_bite_100 : decode cX5_bite 100 = .ok (.getfield 29, 3) := by decide +kernel
theorem dX5_bite_103 : decode cX5_bite 103 = .ok (.getfield 154, 3) := by decide +kernel
theorem dX5_bite_106 : decode cX5_bite 106 = .ok (.iload 8, 2) := by decide +kernel
theorem dX5_bite_108 : decode cX5_bite 108 = .ok (.aload_n 0, 1) := by decide +kernel
theorem dX5_bite_109 : decode cX5_bite 109 = .ok (.getfield 128, 3) := by decide +kernel
theorem dX5_bite_112 : decode cX5_bite 112 = .ok (.invokevirtual 94, 3) := by decide +kernel
theorem dX5_bite_115 : decode cX5_bite 115 = .ok (.sipush (-9999), 3) := by decide +kernel
theorem dX5_bite_118 : decode cX5_bite 118 = .ok (.sipush 9999, 3) := by decide +kernel
theorem dX5_bite_121 : decode cX5_bite 121 = .ok (.invokestatic 99, 3) := by decide +kernel
theorem dX5_bite_124 : decode cX5_bite 124 = .ok (.iadd, 1) := by decide +kernel
theorem dX5_bite_125 : decode cX5_bite 125 = .ok (.istore 5, 2) := by decide +kernel
theorem dX5_bite_127 : decode cX5_bite 127 = .ok (.aload_n 0, 1) := by decide +kernel
theorem dX5_bite_128 : decode cX5_bite 128 = .ok (.sipush 30000, 3) := by decide +kernel
theorem dX5_bite_131 : decode cX5_bite 131 = .ok (.aload_n 0, 1) := by decide +kernel
theorem dX5_bite_132 : decode cX5_bite 132 = .ok (.getfield 128, 3) := by decide +kernel
theorem dX5_bite_135 : decode cX5_bite 135 = .ok (.aload_n 0, 1) := by decide +kernel
theorem dX5_bite_136 : decode cX5_bite 136 = .ok (.getfield 29, 3) := by decide +kernel
theorem dX5_bite_139 : decode cX5_bite 139 = .ok (.getfield 157, 3) := by decide +kernel
theorem dX5_bite_142 : decode cX5_bite 142 = .ok (.iload 8, 2) := by decide +kernel
theorem dX5_bite_144 : decode cX5_bite 144 = .ok (.iconst 0, 1) := by decide +kernel
theorem dX5_bite_145 : decode cX5_bite 145 = .ok (.invokevirtual 94, 3) := by decide +kernel
theorem dX5_bite_148 : decode cX5_bite 148 = .ok (.iconst 0, 1) := by decide +kernel
theorem dX5_bite_149 : decode cX5_bite 149 = .ok (.sipush 30000, 3) := by decide +kernel
theorem dX5_bite_152 : decode cX5_bite 152 = .ok (.invokestatic 99, 3) := by decide +kernel
theorem dX5_bite_155 : decode cX5_bite 155 = .ok (.iadd, 1) := by decide +kernel
theorem dX5_bite_156 : decode cX5_bite 156 = .ok (.invokestatic 159, 3) := by decide +kernel
theorem dX5_bite_159 : decode cX5_bite 159 = .ok (.putfield 128, 3) := by decide +kernel
theorem dX5_bite_162 : decode cX5_bite 162 = .ok (.aload_n 0, 1) := by decide +kernel
theorem dX5_bite_163 : decode cX5_bite 163 = .ok (.getfield 17, 3) := by decide +kernel
theorem dX5_bite_166 : decode cX5_bite 166 = .ok (.iload 7, 2) := by decide +kernel
theorem dX5_bite_168 : decode cX5_bite 168 = .ok (.iload_n 3, 1) := by decide +kernel
theorem dX5_bite_169 : decode cX5_bite 169 = .ok (.aload_n 0, 1) := by decide +kernel
theorem dX5_bite_170 : decode cX5_bite 170 = .ok (.getfield 131, 3) := by decide +kernel
theorem dX5_bite_173 : decode cX5_bite 173 = .ok (.iadd, 1) := by decide +kernel
theorem dX5_bite_174 : decode cX5_bite 174 = .ok (.iastore, 1) := by decide +kernel
theorem dX5_bite_175 : decode cX5_bite 175 = .ok (.aload_n 0, 1) := by decide +kernel
theorem dX5_bite_176 : decode cX5_bite 176 = .ok (.getfield 20, 3) := by decide +kernel
theorem dX5_bite_179 : decode cX5_bite 179 = .ok (.iload 7, 2) := by decide +kernel
theorem dX5_bite_181 : decode cX5_bite 181 = .ok (.iload_n 2, 1) := by decide +kernel
theorem dX5_bite_182 : decode cX5_bite 182 = .ok (.iastore, 1) := by decide +kernel
theorem dX5_bite_183 : decode cX5_bite 183 = .ok (.aload_n 0, 1) := by decide +kernel
theorem dX5_bite_184 : decode cX5_bite 184 = .ok (.getfield 23, 3) := by decide +kernel
theorem dX5_bite_187 : decode cX5_bite 187 = .ok (.iload 7, 2) := by decide +kernel
theorem dX5_bite_189 : decode cX5_bite 189 = .ok (.iload 6, 2) := by decide +kernel
theorem dX5_bite_191 : decode cX5_bite 191 = .ok (.iastore, 1) := by decide +kernel
theorem dX5_bite_192 : decode cX5_bite 192 = .ok (.aload_n 0, 1) := by decide +kernel
theorem dX5_bite_193 : decode cX5_bite 193 = .ok (.getfield 26, 3) := by decide +kernel
theorem dX5_bite_196 : decode cX5_bite 196 = .ok (.iload 7, 2) := by decide +kernel
theorem dX5_bite_198 : decode cX5_bite 198 = .ok (.aload_n 0, 1) := by decide +kernel
theorem dX5_bite_199 : decode cX5_bite 199 = .ok (.getfield 131, 3) := by decide +kernel
theorem dX5_bite_202 : decode cX5_bite 202 = .ok (.iastore, 1) := by decide +kernel
theorem dX5_bite_203 : decode cX5_bite 203 = .ok (.iinc 6 1, 3) := by decide +kernel
theorem dX5_bite_206 : decode cX5_bite 206 = .ok (.goto (-189), 3) := by decide +kernel
theorem dX5_bite_209 : decode cX5_bite 209 = .ok (.iload 5, 2) := by decide +kernel
theorem dX5_bite_211 : decode cX5_bite 211 = .ok (.ireturn, 1) := by decide +kernel
set_option maxRecDepth 20000 in
theorem ggX5_bite_J9_floorMod_7cf53 : GoodIn wsX5_bite wsJ9_floorMod_7cf53 := goodIn_r _ [24] rfl (by decide +kernel)
set_option maxRecDepth 20000 in
theorem gX5_bite_J9_floorMod_7cf53 : GoodIn wsX5_bite (va_wsS RX5 151 yJ9_floorMod_7cf53 wsJ9_floorMod_7cf53) := goodIn_app (goodIn_of _ (by decide +kernel)) ggX5_bite_J9_floorMod_7cf53
set_option maxRecDepth 20000 in
theorem ggX5_bite_X3_value : GoodIn wsX5_bite wsX3_value := goodIn_r _ [29, 30, 31, 32, 33, 34, 28, 35, 64, 65, 66, 67, 68, 69, 70, 71, 72] rfl (by decide +kernel)
set_option maxRecDepth 20000 in
theorem gX5_bite_X3_value : GoodIn wsX5_bite (wsV RX5 94 RX3 yX3_value wsX3_value) := goodIn_app (goodIn_of _ (by decide +kernel)) ggX5_bite_X3_value
set_option maxRecDepth 20000 in
theorem ggX5_bite_X5_within : GoodIn wsX5_bite wsX5_within := goodIn_r _ [39, 15, 16, 7, 17, 5, 6, 8] rfl (by decide +kernel)
set_option maxRecDepth 20000 in
theorem gX5_bite_X5_within : GoodIn wsX5_bite (va_wsS RX5 99 yX5_within wsX5_within) := goodIn_app (goodIn_of _ (by decide +kernel)) ggX5_bite_X5_within
set_option maxHeartbeats 4000000 in
set_option maxRecDepth 100000 in
theorem S_X5_bite (l : Launch) (D : va_G) (K : Nat → ClassId) (a : Nat → Nat) (G : gS) (p0 : Int32) (s0 : Int) (p1 : Int32) (s1 : Int) (p2 : Int32) (s2 : Int) (e0 : p0.toInt = s0) (h0 : 0 ≤ s0 ∧ s0 ≤ 15) (e1 : p1.toInt = s1) (e2 : p2.toInt = s2) (h2 : 1 ≤ s2 ∧ s2 ≤ 5000) (xb0 : (-9999 ≤ (G 6 13).toInt ∧ (G 6 13).toInt ≤ 9999)) (hI : xI G) (sz : Nat) : Ki l yX5_bite wsX5_bite 3 87 0 0 D [.ref (a 6), .int p0, .int p1, .int p2] (xW K a G) (tK K) sz (fun (r : Int32) (G' : gS) => (xI G') ∧ (gu_un xcd [613, 618, 2100, 2700, 4500, 4600, 4700, 4800] G G') ∧ ((-39996) ≤ r.toInt ∧ r.toInt ≤ 39996) ∧ ((∀ (Q S : gS) (C : Nat → List Int), xBq G Q C p1 p2 → (pR (G 18 0).toInt S (G 45) (G 6 12) (G 6 13) (G 6 14) (G 6 17) (G 6 18) (G 6 16) 0 ∧ pL (G 18 0).toInt S (G 46) (G 47) (G 48)) → (pR (G 18 0).toInt (psT Q C s0 p1 ((G 6 7).toInt).toNat S) (G' 45) (G' 6 12) (G 6 13) (G 6 14) (G' 6 17) (G 6 18) (G 6 16) (Int32.ofInt r.toInt) ∧ pL (G 18 0).toInt (psT Q C s0 p1 ((G 6 7).toInt).toNat S) (G' 46) (G' 47) (G' 48)))) ∧ ((-39996 ≤ r.toInt ∧ r.toInt ≤ 39996))) (fun (G' : gS) => (xW K a G')) (fun _ => (tK K)) := by
  unfold Ki
  refine g_ofW (cc := cX5_bite) (lv := [(0, .ref (a 6)), (1, .int p0), (2, .int p1), (3, .int p2)]) (by decide) rfl (Nat.le_of_ble_eq_true rfl) rfl ?_
  intro p e s m args below meth c A Q hA hQ F hr hnm
  have hts := F.2.2.2.2.1
  have w_0 : (Cond.fieldLink RX5 53 "QuietCut$Lathe" "teethMany" "I").before args s = true := hts _ (List.mem_of_getElem? (i := 3) rfl)
  have i_X5 : ∀ w ∈ u_ws RX5 TX5 20, w ∈ wsX5_bite := fun _ h => List.mem_cons_of_mem _ (List.mem_append_left _ (List.mem_append_left _ (List.mem_append_right _ h)))
  have w_1 : (Cond.fieldLink RX5 11 "QuietCut$Lathe" "teeth" "[I").before args s = true := hts _ (List.mem_of_getElem? (i := 4) rfl)
  have w_2 : (Cond.methodLink RX5 146 Lib.Math.max.name).before args s = true := hts _ (List.mem_of_getElem? (i := 5) rfl)
  have w_3 : (Cond.static Lib.Math.max.name).before args s = true := hts _ (List.mem_of_getElem? (i := 6) rfl)
  have w_4 : (Cond.initialized "java/lang/Math").before args s = true := hts _ (List.mem_of_getElem? (i := 7) rfl)
  have w_5 : (Cond.code Lib.Math.max.name Lib.Math.max.code 2 (some .int)).before args s = true := hts _ (List.mem_of_getElem? (i := 8) rfl)
  have w_6 : (Cond.fieldLink RX5 17 "QuietCut$Lathe" "heights" "[I").before args s = true := hts _ (List.mem_of_getElem? (i := 9) rfl)
  have w_7 : (Cond.fieldLink RX5 131 "QuietCut$Lathe" "x" "I").before args s = true := hts _ (List.mem_of_getElem? (i := 10) rfl)
  have w_8 : (Cond.fieldLink RX5 29 "QuietCut$Lathe" "shop" "LQuietCut$Shop;").before args s = true := hts _ (List.mem_of_getElem? (i := 1) rfl)
  have w_9 : (Cond.fieldLink RX5 154 "QuietCut$Shop" "force" "LQuietCut$Formula;").before args s = true := hts _ (List.mem_of_getElem? (i := 12) rfl)
  have i_X7 : ∀ w ∈ u_ws RX7 TX7 4, w ∈ wsX5_bite := fun _ h => List.mem_cons_of_mem _ (List.mem_append_left _ (List.mem_append_right _ h))
  have w_10 : (Cond.fieldLink RX5 128 "QuietCut$Lathe" "wear" "I").before args s = true := hts _ (List.mem_of_getElem? (i := 13) rfl)
  have w_11 : (Cond.fieldLink RX5 157 "QuietCut$Shop" "wear" "LQuietCut$Formula;").before args s = true := hts _ (List.mem_of_getElem? (i := 14) rfl)
  have w_12 : (Cond.methodLink RX5 159 Lib.Math.min.name).before args s = true := hts _ (List.mem_of_getElem? (i := 15) rfl)
  have w_13 : (Cond.static Lib.Math.min.name).before args s = true := hts _ (List.mem_of_getElem? (i := 16) rfl)
  have w_14 : (Cond.code Lib.Math.min.name Lib.Math.min.code 2 (some .int)).before args s = true := hts _ (List.mem_of_getElem? (i := 17) rfl)
  have w_15 : (Cond.fieldLink RX5 20 "QuietCut$Lathe" "leftTurn" "[I").before args s = true := hts _ (List.mem_of_getElem? (i := 18) rfl)
  have w_16 : (Cond.fieldLink RX5 23 "QuietCut$Lathe" "leftTooth" "[I").before args s = true := hts _ (List.mem_of_getElem? (i := 19) rfl)
  have w_17 : (Cond.fieldLink RX5 26 "QuietCut$Lathe" "leftX" "[I").before args s = true := hts _ (List.mem_of_getElem? (i := 20) rfl)
  have w_18 : (Cond.fieldLink RX5 140 "QuietCut$Lathe" "out" "I").before args s = true := hts _ (List.mem_of_getElem? (i := 11) rfl)
  have w_19 : (Cond.fieldLink RX5 56 "QuietCut$Shop" "numbers" "[I").before args s = true := hts _ (List.mem_of_getElem? (i := 2) rfl)
  have rg1 : -2147483648 ≤ s1 ∧ s1 ≤ 2147483647 := e1 ▸ ti_rng p1
  have b1 : (4 : Int) ≤ (G 18 0).toInt ∧ (G 18 0).toInt ≤ 16 := hI 18 0
  have b2 : (0 : Int) ≤ (G 6 7).toInt ∧ (G 6 7).toInt ≤ 4 := hI 6 7
  have J_17 : ∀ (fuel : Nat) (x17_5 : Int32) (x17_6 : Int32) (Gj17 : gS), (2147483647 - x17_6.toInt).toNat < fuel → ((-39996) ≤ x17_5.toInt ∧ x17_5.toInt ≤ 39996) → (0 ≤ x17_6.toInt ∧ x17_6.toInt ≤ 4) → (xI Gj17) → (gu_un xcd [613, 618, 2100, 2700, 4500, 4600, 4700, 4800] G Gj17) → (∀ (Q S : gS) (C : Nat → List Int), xBq G Q C p1 p2 → (pR (G 18 0).toInt S (G 45) (G 6 12) (G 6 13) (G 6 14) (G 6 17) (G 6 18) (G 6 16) 0 ∧ pL (G 18 0).toInt S (G 46) (G 47) (G 48)) → (pR (G 18 0).toInt (psT Q C s0 p1 (x17_6.toInt).toNat S) (Gj17 45) (Gj17 6 12) (G 6 13) (G 6 14) (Gj17 6 17) (G 6 18) (G 6 16) x17_5 ∧ pL (G 18 0).toInt (psT Q C s0 p1 (x17_6.toInt).toNat S) (Gj17 46) (Gj17 47) (Gj17 48))) → ((x17_6.toInt ≤ (G 6 7).toInt)) → ((-9999 * x17_6.toInt ≤ x17_5.toInt ∧ x17_5.toInt ≤ 9999 * x17_6.toInt)) → gG p l e (gR 3 0 0 87) s m args below meth c D A 9 Q 0 0 (xW K a Gj17) (tK K) [(0, .ref (a 6)), (1, .int p0), (2, .int p1), (3, .int p2), (4, .int (G 18 0)), (5, .int x17_5), (6, .int x17_6)] 17 [] := by
    intro fuel
    induction fuel with
    | zero => intro x17_5 x17_6 Gj17 hm; exact absurd hm (Nat.not_lt_zero _)
    | succ fuel_17 ih_17 =>
      intro x17_5 x17_6 Gj17 hm_17 h17_5 h17_6 jI17 jU17 bt kl fb
      refine g_iload F 6 dX5_bite_17 rfl ?_
      refine g_aload_n F 0 dX5_bite_19 rfl rfl ?_
      refine xg_6_7 F i_X5 w_0 dX5_bite_20 (G 6 7) (jU17 6 7 (by decide)) ?_
      refine v_icmp_ge F 209 dX5_bite_23 (by decide) x17_6.toInt (G 6 7).toInt rfl rfl (fun c3 => ?_) (fun c3 => ?_)
      · refine g_iload F 5 dX5_bite_209 rfl ?_
        exact u_iret F hA hQ hr Gj17 (⟨jI17, (gu_un.tr gu_un.rf (gu_un.su jU17 rfl)), (by have h9 := ti_rng x17_5; omega), (fun Q S C hq hs => by have h9 := bt Q S C hq hs; rw [show x17_6.toInt = (G 6 7).toInt by omega] at h9; rw [Int32.ofInt_toInt]; exact h9), (by show (-39996 ≤ x17_5.toInt ∧ x17_5.toInt ≤ 39996); (first | omega | (simp only [Int32.reduceToInt, true_and, and_true, ne_eq, not_true_eq_false, false_and, or_false, false_or, true_or, or_true, false_implies] <;> omega)))⟩) rfl rfl dX5_bite_211
      · refine g_iload F 6 dX5_bite_26 rfl ?_
        refine g_iconst F 4 dX5_bite_28 (by decide) ?_
        refine v_icmp_ge F 209 dX5_bite_29 (by decide) x17_6.toInt 4 rfl rfl (fun c4 => absurd c4 (by omega)) (fun c4 => ?_)
        refine g_iload_n F 1 dX5_bite_32 rfl rfl ?_
        refine g_aload_n F 0 dX5_bite_33 rfl rfl ?_
        refine xg_6_5 F i_X5 w_1 dX5_bite_34 ?_
        refine g_iload F 6 dX5_bite_37 rfl ?_
        refine u1_iald F 44 0 xc_44 rfl x17_6.toInt rfl (by omega) (by omega) dX5_bite_39 ((G 44) (x17_6.toInt).toNat) (congrFun ((show Gj17 44 = G 44 from funext fun k_ => jU17 44 k_ (show (4400 : Nat) ∉ ([613, 618, 2100, 2700, 4500, 4600, 4700, 4800] : List Nat) by decide))) _) ?_
        have b5 : (0 : Int) ≤ ((G 44) (x17_6.toInt).toNat).toInt ∧ ((G 44) (x17_6.toInt).toNat).toInt ≤ 15 := hI 44 _
        refine u_iadd F dX5_bite_40 s0 ((G 44) (x17_6.toInt).toNat).toInt e0 rfl (by omega) (by omega) (fun y6 ey6 => ?_)
        refine g_iconst F 1 dX5_bite_41 (by decide) ?_
        refine g_iload F 4 dX5_bite_42 rfl ?_
        refine u_mmax F w_2 w_3 w_4 w_5 (Nat.le_of_ble_eq_true rfl) (Nat.le_of_ble_eq_true rfl) (Nat.le_of_ble_eq_true rfl) (Nat.le_of_ble_eq_true rfl) dX5_bite_44 1 (G 18 0).toInt rfl rfl (fun y7 ey7 => ?_)
        refine u_call0 (k := 0) (n := 0) (As := [.int y6, .int y7]) (st := []) F (fun sz => S_J9_floorMod_7cf53 l D y6 y6.toInt y7 y7.toInt rfl (by omega) rfl (by omega) sz) (va_cwS 2 hts gX5_bite_J9_floorMod_7cf53 rfl rfl rfl (by decide +kernel) ⟨Nat.le_of_ble_eq_true rfl, Nat.le_of_ble_eq_true rfl⟩) rfl (Nat.le_of_ble_eq_true rfl) ⟨Nat.zero_le _, Nat.zero_le _⟩ dX5_bite_47 (fun r8 _ hw9 => ?_)
        have q11 : (r8.toInt = y6.toInt % y7.toInt) := hw9.2.1
        have q12 : (0 ≤ r8.toInt ∧ r8.toInt < y7.toInt) := hw9.2.2
        have rg13 := hw9.1
        clear hw9
        refine g_istore F [(7, .int r8), (0, .ref (a 6)), (1, .int p0), (2, .int p1), (3, .int p2), (4, .int (G 18 0)), (5, .int x17_5), (6, .int x17_6)] dX5_bite_50 (by decide) rfl ?_
        refine g_iload F 0 dX5_bite_52 rfl ?_
        refine g_bipush F 16 dX5_bite_54 (by decide) ?_
        refine v_icmp_ge F 76 dX5_bite_56 (by decide) r8.toInt 16 rfl rfl (fun c14 => absurd c14 (by omega)) (fun c14 => ?_)
        refine g_aload_n F 1 dX5_bite_59 rfl rfl ?_
        refine xg_6_8 F i_X5 w_6 dX5_bite_60 ?_
        refine g_iload F 0 dX5_bite_63 rfl ?_
        refine u1_iald F 45 0 xc_45 rfl r8.toInt rfl (by omega) (by omega) dX5_bite_65 ((Gj17 45) (r8.toInt).toNat) (rfl) ?_
        have b15 : ((-9998) : Int) ≤ ((Gj17 45) (r8.toInt).toNat).toInt ∧ ((Gj17 45) (r8.toInt).toNat).toInt ≤ 5000 := jI17 45 _
        refine g_iload_n F 4 dX5_bite_66 rfl rfl ?_
        refine g_isub F dX5_bite_67 ?_
        refine g_aload_n F 1 dX5_bite_68 rfl rfl ?_
        refine xg_6_13 F i_X5 w_7 dX5_bite_69 (G 6 13) (jU17 6 13 (by decide)) ?_
        refine g_isub F dX5_bite_72 ?_
        refine g_goto F 77 dX5_bite_73 (by decide) ?_
        have hk1 := ti_sub (x := ((Gj17 45) (r8.toInt).toNat)) (y := p2) rfl e2 (by omega) (by omega)
        have hk2 := ti_sub (x := ((Gj17 45) (r8.toInt).toNat) - p2) (y := (G 6 13)) rfl rfl (by omega) (by omega)
        refine g_istore F [(8, .int ((((Gj17 45) (r8.toInt).toNat) - p2) - (G 6 13))), (7, .int r8), (0, .ref (a 6)), (1, .int p0), (2, .int p1), (3, .int p2), (4, .int (G 18 0)), (5, .int x17_5), (6, .int x17_6)] dX5_bite_77 (by decide) rfl ?_
        refine g_iload F 0 dX5_bite_79 rfl ?_
        refine v_if_gt F 97 dX5_bite_81 (by decide) (((((Gj17 45) (r8.toInt).toNat) - p2) - (G 6 13)) : Int32).toInt rfl (fun c16 => ?_) (fun c16 => ?_)
        · refine g_iload F 7 dX5_bite_97 rfl ?_
          refine g_aload_n F 2 dX5_bite_99 rfl rfl ?_
          refine xg_6_0 F i_X5 w_8 dX5_bite_100 ?_
          refine xg_2_1 F i_X7 w_9 dX5_bite_103 ?_
          refine g_iload F 0 dX5_bite_106 rfl ?_
          refine g_aload_n F 2 dX5_bite_108 rfl rfl ?_
          refine xg_6_12 F i_X5 w_10 dX5_bite_109 (Gj17 6 12) (rfl) ?_
          have b17 := ti_rng ((((Gj17 45) (r8.toInt).toNat) - p2) - (G 6 13))
          have b18 : (0 : Int) ≤ (Gj17 6 12).toInt ∧ (Gj17 6 12).toInt ≤ 30000 := jI17 6 12
          refine u_callVi (k := 0) (n := 0) (b := a 11) (As := [.int ((((Gj17 45) (r8.toInt).toNat) - p2) - (G 6 13)), .int (Gj17 6 12)]) (st := [.int x17_5]) F (fun sz => S_X3_value_11 l D K a Gj17 ((((Gj17 45) (r8.toInt).toNat) - p2) - (G 6 13)) (((((Gj17 45) (r8.toInt).toNat) - p2) - (G 6 13)) : Int32).toInt (Gj17 6 12) (Gj17 6 12).toInt rfl rfl jI17 sz) (cwV 2 hts gX5_bite_X3_value rfl rfl rfl (by decide +kernel) ⟨Nat.le_of_ble_eq_true rfl, Nat.le_of_ble_eq_true rfl⟩) rfl 11 xc_11 rfl (Nat.le_of_ble_eq_true rfl) ⟨Nat.zero_le _, Nat.zero_le _⟩ dX5_bite_112 (fun r19 G21 hw20 => ?_)
          have hI22 : xI G21 := hw20.1
          have hU23 : gu_un xcd [2100] Gj17 G21 := hw20.2.1
          have hp24 := hw20.2.2
          have b25 : (0 : Int) ≤ (G 11 1).toInt ∧ (G 11 1).toInt ≤ 80 := hI 11 1
          have q26 : (gcOK (tkr (G 20) ((G 11 1).toInt).toNat) → r19.toInt = (eV ((((Gj17 45) (r8.toInt).toNat) - p2) - (G 6 13)) (Gj17 6 12) (tkr (G 20) ((G 11 1).toInt).toNat)).toInt) := by have h9 := hp24; (try simp only [(show Gj17 11 1 = (G 11 1) from jU17 11 1 (by decide)), (show Gj17 11 1 = (G 11 1) from jU17 11 1 (by decide)), (show Gj17 20 = (G 20) from (show Gj17 20 = G 20 from funext fun k_ => jU17 20 k_ (show (2000 : Nat) ∉ ([613, 618, 2100, 2700, 4500, 4600, 4700, 4800] : List Nat) by decide))), (show Gj17 20 = (G 20) from (show Gj17 20 = G 20 from funext fun k_ => jU17 20 k_ (show (2000 : Nat) ∉ ([613, 618, 2100, 2700, 4500, 4600, 4700, 4800] : List Nat) by decide)))] at h9); first | exact h9 | omega
          clear hp24 hw20
          refine g_sipush F (-9999) dX5_bite_115 (by decide) ?_
          refine g_sipush F 9999 dX5_bite_118 (by decide) ?_
          refine u_call0 (k := 0) (n := 0) (As := [.int r19, .int (-9999), .int 9999]) (st := [.int x17_5]) F (fun sz => S_X5_within l D r19 r19.toInt (-9999) (-9999) 9999 9999 rfl rfl rfl sz) (va_cwS 3 hts gX5_bite_X5_within rfl rfl rfl (by decide +kernel) ⟨Nat.le_of_ble_eq_true rfl, Nat.le_of_ble_eq_true rfl⟩) rfl (Nat.le_of_ble_eq_true rfl) ⟨Nat.zero_le _, Nat.zero_le _⟩ dX5_bite_121 (fun r27 _ hw28 => ?_)
          have q30 : (r27.toInt = max (-9999 : Int) (min (9999 : Int) r19.toInt)) := hw28
          clear hw28
          refine g_iadd F dX5_bite_124 ?_
          have fs : ((x17_5 + r27) : Int32).toInt = _ + _ := ti_add rfl rfl (by omega) (by omega)
          refine g_istore F [(5, .int (x17_5 + r27)), (8, .int ((((Gj17 45) (r8.toInt).toNat) - p2) - (G 6 13))), (7, .int r8), (0, .ref (a 6)), (1, .int p0), (2, .int p1), (3, .int p2), (4, .int (G 18 0)), (6, .int x17_6)] dX5_bite_125 (by decide) rfl ?_
          refine g_aload_n F 3 dX5_bite_127 rfl rfl ?_
          refine g_sipush F 30000 dX5_bite_128 (by decide) ?_
          refine g_aload_n F 3 dX5_bite_131 rfl rfl ?_
          refine xg_6_12 F i_X5 w_10 dX5_bite_132 (Gj17 6 12) (hU23 6 12 (by decide)) ?_
          refine g_aload_n F 3 dX5_bite_135 rfl rfl ?_
          refine xg_6_0 F i_X5 w_8 dX5_bite_136 ?_
          refine xg_2_3 F i_X7 w_11 dX5_bite_139 ?_
          refine g_iload F 1 dX5_bite_142 rfl ?_
          refine g_iconst F 0 dX5_bite_144 (by decide) ?_
          refine u_callVi (k := 0) (n := 0) (b := a 13) (As := [.int ((((Gj17 45) (r8.toInt).toNat) - p2) - (G 6 13)), .int 0]) (st := [.int (Gj17 6 12), .int 30000, .ref (a 6)]) F (fun sz => S_X3_value_13 l D K a G21 ((((Gj17 45) (r8.toInt).toNat) - p2) - (G 6 13)) (((((Gj17 45) (r8.toInt).toNat) - p2) - (G 6 13)) : Int32).toInt 0 0 rfl rfl hI22 sz) (cwV 2 hts gX5_bite_X3_value rfl rfl rfl (by decide +kernel) ⟨Nat.le_of_ble_eq_true rfl, Nat.le_of_ble_eq_true rfl⟩) rfl 13 xc_13 rfl (Nat.le_of_ble_eq_true rfl) ⟨Nat.zero_le _, Nat.zero_le _⟩ dX5_bite_145 (fun r31 G33 hw32 => ?_)
          have hI34 : xI G33 := hw32.1
          have hU35 : gu_un xcd [2700] G21 G33 := hw32.2.1
          have hp36 := hw32.2.2
          have b37 : (0 : Int) ≤ (G 13 1).toInt ∧ (G 13 1).toInt ≤ 80 := hI 13 1
          have q38 : (gcOK (tkr (G 26) ((G 13 1).toInt).toNat) → r31.toInt = (eV ((((Gj17 45) (r8.toInt).toNat) - p2) - (G 6 13)) 0 (tkr (G 26) ((G 13 1).toInt).toNat)).toInt) := by have h9 := hp36; (try simp only [(show G21 13 1 = (G 13 1) from (hU23 13 1 (by decide)).trans (jU17 13 1 (by decide))), (show G21 13 1 = (G 13 1) from (hU23 13 1 (by decide)).trans (jU17 13 1 (by decide))), (show G21 26 = (G 26) from (show G21 26 = Gj17 26 from funext fun k_ => hU23 26 k_ (show (2600 : Nat) ∉ ([2100] : List Nat) by decide)).trans ((show Gj17 26 = G 26 from funext fun k_ => jU17 26 k_ (show (2600 : Nat) ∉ ([613, 618, 2100, 2700, 4500, 4600, 4700, 4800] : List Nat) by decide)))), (show G21 26 = (G 26) from (show G21 26 = Gj17 26 from funext fun k_ => hU23 26 k_ (show (2600 : Nat) ∉ ([2100] : List Nat) by decide)).trans ((show Gj17 26 = G 26 from funext fun k_ => jU17 26 k_ (show (2600 : Nat) ∉ ([613, 618, 2100, 2700, 4500, 4600, 4700, 4800] : List Nat) by decide))))] at h9); first | exact h9 | omega
          clear hp36 hw32
          refine g_iconst F 0 dX5_bite_148 (by decide) ?_
          refine g_sipush F 30000 dX5_bite_149 (by decide) ?_
          refine u_call0 (k := 0) (n := 0) (As := [.int r31, .int 0, .int 30000]) (st := [.int (Gj17 6 12), .int 30000, .ref (a 6)]) F (fun sz => S_X5_within l D r31 r31.toInt 0 0 30000 30000 rfl rfl rfl sz) (va_cwS 3 hts gX5_bite_X5_within rfl rfl rfl (by decide +kernel) ⟨Nat.le_of_ble_eq_true rfl, Nat.le_of_ble_eq_true rfl⟩) rfl (Nat.le_of_ble_eq_true rfl) ⟨Nat.zero_le _, Nat.zero_le _⟩ dX5_bite_152 (fun r39 _ hw40 => ?_)
          have q42 : (r39.toInt = max (0 : Int) (min (30000 : Int) r31.toInt)) := hw40
          clear hw40
          refine u_iadd F dX5_bite_155 (Gj17 6 12).toInt r39.toInt rfl rfl (by omega) (by omega) (fun y43 ey43 => ?_)
          refine u_mmin F w_12 w_13 w_4 w_14 (Nat.le_of_ble_eq_true rfl) (Nat.le_of_ble_eq_true rfl) (Nat.le_of_ble_eq_true rfl) (Nat.le_of_ble_eq_true rfl) dX5_bite_156 30000 y43.toInt rfl rfl (fun y44 ey44 => ?_)
          refine xp_6_12 F i_X5 w_10 dX5_bite_159 ?_
          refine g_aload_n F 3 dX5_bite_162 rfl rfl ?_
          refine xg_6_8 F i_X5 w_6 dX5_bite_163 ?_
          refine g_iload F 2 dX5_bite_166 rfl ?_
          refine g_iload_n F 6 dX5_bite_168 rfl rfl ?_
          refine g_aload_n F 3 dX5_bite_169 rfl rfl ?_
          refine xg_6_13 F i_X5 w_7 dX5_bite_170 (G 6 13) ((hU35 6 13 (by decide)).trans ((hU23 6 13 (by decide)).trans (jU17 6 13 (by decide)))) ?_
          refine g_iadd F dX5_bite_173 ?_
          have cs : ((p2 + (G 6 13)) : Int32).toInt = _ + _ := ti_add e2 rfl (by omega) (by omega)
          refine u_iast F 45 0 xc_45 rfl r8.toInt rfl (by omega) (by omega) (xW K a (gu_up (gu_up G33 6 12 y44) 45 (r8.toInt).toNat (p2 + (G 6 13)))) (xs_45 _) dX5_bite_174 ?_
          refine g_aload_n F 3 dX5_bite_175 rfl rfl ?_
          refine xg_6_9 F i_X5 w_15 dX5_bite_176 ?_
          refine g_iload F 2 dX5_bite_179 rfl ?_
          refine g_iload_n F 5 dX5_bite_181 rfl rfl ?_
          refine u_iast F 46 0 xc_46 rfl r8.toInt rfl (by omega) (by omega) (xW K a (gu_up (gu_up (gu_up G33 6 12 y44) 45 (r8.toInt).toNat (p2 + (G 6 13))) 46 (r8.toInt).toNat p1)) (xs_46 _) dX5_bite_182 ?_
          refine g_aload_n F 3 dX5_bite_183 rfl rfl ?_
          refine xg_6_10 F i_X5 w_16 dX5_bite_184 ?_
          refine g_iload F 2 dX5_bite_187 rfl ?_
          refine g_iload F 8 dX5_bite_189 rfl ?_
          refine u_iast F 47 0 xc_47 rfl r8.toInt rfl (by omega) (by omega) (xW K a (gu_up (gu_up (gu_up (gu_up G33 6 12 y44) 45 (r8.toInt).toNat (p2 + (G 6 13))) 46 (r8.toInt).toNat p1) 47 (r8.toInt).toNat x17_6)) (xs_47 _) dX5_bite_191 ?_
          refine g_aload_n F 3 dX5_bite_192 rfl rfl ?_
          refine xg_6_11 F i_X5 w_17 dX5_bite_193 ?_
          refine g_iload F 2 dX5_bite_196 rfl ?_
          refine g_aload_n F 3 dX5_bite_198 rfl rfl ?_
          refine xg_6_13 F i_X5 w_7 dX5_bite_199 (G 6 13) ((hU35 6 13 (by decide)).trans ((hU23 6 13 (by decide)).trans (jU17 6 13 (by decide)))) ?_
          refine u_iast F 48 0 xc_48 rfl r8.toInt rfl (by omega) (by omega) (xW K a (gu_up (gu_up (gu_up (gu_up (gu_up G33 6 12 y44) 45 (r8.toInt).toNat (p2 + (G 6 13))) 46 (r8.toInt).toNat p1) 47 (r8.toInt).toNat x17_6) 48 (r8.toInt).toNat (G 6 13))) (xs_48 _) dX5_bite_202 ?_
          refine u_iinc F (fun v_ => [(6, .int v_), (5, .int (x17_5 + r27)), (8, .int ((((Gj17 45) (r8.toInt).toNat) - p2) - (G 6 13))), (7, .int r8), (0, .ref (a 6)), (1, .int p0), (2, .int p1), (3, .int p2), (4, .int (G 18 0))]) dX5_bite_203 (j := 8) rfl x17_6.toInt 1 rfl rfl (by omega) (by omega) (by decide) (fun _ => rfl) (fun y45 ey45 => ?_)
          refine g_goto F 17 dX5_bite_206 (by decide) ?_
          refine g_locals [(0, .ref (a 6)), (1, .int p0), (2, .int p1), (3, .int p2), (4, .int (G 18 0)), (5, .int (x17_5 + r27)), (6, .int y45)] [4, 5, 6, 7, 8, 1, 0] rfl ?_
          exact ih_17 (x17_5 + r27) y45 (gu_up (gu_up (gu_up (gu_up (gu_up G33 6 12 y44) 45 (r8.toInt).toNat (p2 + (G 6 13))) 46 (r8.toInt).toNat p1) 47 (r8.toInt).toNat x17_6) 48 (r8.toInt).toNat (G 6 13)) (by omega) (by have h9 := ti_rng (x17_5 + r27); omega) (by have h9 := ti_rng y45; omega) (gu_I.up (j := 48) (k := (r8.toInt).toNat) (v := (G 6 13)) (gu_I.up (j := 47) (k := (r8.toInt).toNat) (v := x17_6) (gu_I.up (j := 46) (k := (r8.toInt).toNat) (v := p1) (gu_I.up (j := 45) (k := (r8.toInt).toNat) (v := (p2 + (G 6 13))) (gu_I.up (j := 6) (k := 12) (v := y44) hI34 (show (0 : Int) ≤ Int32.toInt y44 by omega) (show Int32.toInt y44 ≤ 30000 by omega)) (show ((-9998) : Int) ≤ Int32.toInt (p2 + (G 6 13)) by omega) (show Int32.toInt (p2 + (G 6 13)) ≤ 5000 by omega)) (ti_rng _).1 (ti_rng _).2) (ti_rng _).1 (ti_rng _).2) (ti_rng _).1 (ti_rng _).2) (gu_un.up (j := 48) (k := (r8.toInt).toNat) (v := (G 6 13)) (gu_un.up (j := 47) (k := (r8.toInt).toNat) (v := x17_6) (gu_un.up (j := 46) (k := (r8.toInt).toNat) (v := p1) (gu_un.up (j := 45) (k := (r8.toInt).toNat) (v := (p2 + (G 6 13))) (gu_un.up (j := 6) (k := 12) (v := y44) (gu_un.tr (gu_un.tr (gu_un.tr gu_un.rf (gu_un.su jU17 rfl)) (gu_un.su hU23 rfl)) (gu_un.su hU35 rfl)) (show (613 : Nat) ∈ ([613, 618, 2100, 2700, 4500, 4600, 4700, 4800] : List Nat) by decide)) (show (4500 : Nat) ∈ ([613, 618, 2100, 2700, 4500, 4600, 4700, 4800] : List Nat) by decide)) (show (4600 : Nat) ∈ ([613, 618, 2100, 2700, 4500, 4600, 4700, 4800] : List Nat) by decide)) (show (4700 : Nat) ∈ ([613, 618, 2100, 2700, 4500, 4600, 4700, 4800] : List Nat) by decide)) (show (4800 : Nat) ∈ ([613, 618, 2100, 2700, 4500, 4600, 4700, 4800] : List Nat) by decide)) (fun Q S C hq hs => by obtain ⟨h1, h2⟩ := bt Q S C hq hs; have hp := psP_of (Q := Q) (i := s0) (k := (x17_6.toInt).toNat) (t := G 44 (x17_6.toInt).toNat) (s := G 18 0) q11 (by omega) (by omega) (hq.2.1 _ (by omega)) hq.1; have hcut : p2 + (G 6 13) = psF Q p1 + (G 6 13) := (by rw [hq.2.2.1]); have hc := pR.chp h1 hp (by omega) hcut (i32_ss _ _ _); exact ⟨pR.bite h1 hc (by omega) hp hcut (show (gu_up (gu_up (gu_up (gu_up (gu_up G33 6 12 y44) 45 (r8.toInt).toNat (p2 + (G 6 13))) 46 (r8.toInt).toNat p1) 47 (r8.toInt).toNat x17_6) 48 (r8.toInt).toNat (G 6 13)) 45 = (upd (Gj17 45) (r8.toInt).toNat (p2 + (G 6 13))) from (congrArg (fun f_ => upd f_ (r8.toInt).toNat (p2 + (G 6 13))) ((show G33 45 = G21 45 from funext fun k_ => hU35 45 k_ (by simp [xcd])).trans (show G21 45 = (Gj17 45) from ((show G21 45 = Gj17 45 from funext fun k_ => hU23 45 k_ (by simp [xcd])).trans (show Gj17 45 = (Gj17 45) from rfl)))))) (congrArg (x17_5 + ·) (psC_of q30 (by rw [hq.2.2.2.1]; exact q26 (by rw [← hq.2.2.2.1]; exact hq.2.2.2.2.2.1)))) (psW_of (y := y44) (by have hv := q38 (by rw [← hq.2.2.2.2.1]; exact hq.2.2.2.2.2.2); rw [← hq.2.2.2.2.1] at hv; rw [← hv]; have hw9 := q42; omega)) (by omega) (show (gu_up (gu_up (gu_up (gu_up (gu_up G33 6 12 y44) 45 (r8.toInt).toNat (p2 + (G 6 13))) 46 (r8.toInt).toNat p1) 47 (r8.toInt).toNat x17_6) 48 (r8.toInt).toNat (G 6 13)) 6 17 = Gj17 6 17 from (show gu_un xcd [613, 2100, 2700, 4500, 4600, 4700, 4800] Gj17 (gu_up (gu_up (gu_up (gu_up (gu_up G33 6 12 y44) 45 (r8.toInt).toNat (p2 + (G 6 13))) 46 (r8.toInt).toNat p1) 47 (r8.toInt).toNat x17_6) 48 (r8.toInt).toNat (G 6 13)) from (gu_un.up (j := 48) (k := (r8.toInt).toNat) (v := (G 6 13)) (gu_un.up (j := 47) (k := (r8.toInt).toNat) (v := x17_6) (gu_un.up (j := 46) (k := (r8.toInt).toNat) (v := p1) (gu_un.up (j := 45) (k := (r8.toInt).toNat) (v := (p2 + (G 6 13))) (gu_un.up (j := 6) (k := 12) (v := y44) (gu_un.tr (gu_un.tr gu_un.rf (gu_un.su hU23 rfl)) (gu_un.su hU35 rfl)) (show (613 : Nat) ∈ ([613, 2100, 2700, 4500, 4600, 4700, 4800] : List Nat) by decide)) (show (4500 : Nat) ∈ ([613, 2100, 2700, 4500, 4600, 4700, 4800] : List Nat) by decide)) (show (4600 : Nat) ∈ ([613, 2100, 2700, 4500, 4600, 4700, 4800] : List Nat) by decide)) (show (4700 : Nat) ∈ ([613, 2100, 2700, 4500, 4600, 4700, 4800] : List Nat) by decide)) (show (4800 : Nat) ∈ ([613, 2100, 2700, 4500, 4600, 4700, 4800] : List Nat) by decide))) 6 17 (by decide)), pL.bite h2 h1.2.2.1 hc (by omega) hp (show (gu_up (gu_up (gu_up (gu_up (gu_up G33 6 12 y44) 45 (r8.toInt).toNat (p2 + (G 6 13))) 46 (r8.toInt).toNat p1) 47 (r8.toInt).toNat x17_6) 48 (r8.toInt).toNat (G 6 13)) 46 = (upd (Gj17 46) (r8.toInt).toNat p1) from (congrArg (fun f_ => upd f_ (r8.toInt).toNat p1) ((show G33 46 = G21 46 from funext fun k_ => hU35 46 k_ (by simp [xcd])).trans (show G21 46 = (Gj17 46) from ((show G21 46 = Gj17 46 from funext fun k_ => hU23 46 k_ (by simp [xcd])).trans (show Gj17 46 = (Gj17 46) from rfl)))))) (by rw [i32_nat (by omega)]; exact (show (gu_up (gu_up (gu_up (gu_up (gu_up G33 6 12 y44) 45 (r8.toInt).toNat (p2 + (G 6 13))) 46 (r8.toInt).toNat p1) 47 (r8.toInt).toNat x17_6) 48 (r8.toInt).toNat (G 6 13)) 47 = (upd (Gj17 47) (r8.toInt).toNat x17_6) from (congrArg (fun f_ => upd f_ (r8.toInt).toNat x17_6) ((show G33 47 = G21 47 from funext fun k_ => hU35 47 k_ (by simp [xcd])).trans (show G21 47 = (Gj17 47) from ((show G21 47 = Gj17 47 from funext fun k_ => hU23 47 k_ (by simp [xcd])).trans (show Gj17 47 = (Gj17 47) from rfl))))))) (show (gu_up (gu_up (gu_up (gu_up (gu_up G33 6 12 y44) 45 (r8.toInt).toNat (p2 + (G 6 13))) 46 (r8.toInt).toNat p1) 47 (r8.toInt).toNat x17_6) 48 (r8.toInt).toNat (G 6 13)) 48 = (upd (Gj17 48) (r8.toInt).toNat (G 6 13)) from (congrArg (fun f_ => upd f_ (r8.toInt).toNat (G 6 13)) ((show G33 48 = G21 48 from funext fun k_ => hU35 48 k_ (by simp [xcd])).trans (show G21 48 = (Gj17 48) from ((show G21 48 = Gj17 48 from funext fun k_ => hU23 48 k_ (by simp [xcd])).trans (show Gj17 48 = (Gj17 48) from rfl)))))) (by omega)⟩) (by have e9_6_7 : (gu_up (gu_up (gu_up (gu_up (gu_up G33 6 12 y44) 45 (r8.toInt).toNat (p2 + (G 6 13))) 46 (r8.toInt).toNat p1) 47 (r8.toInt).toNat x17_6) 48 (r8.toInt).toNat (G 6 13)) 6 7 = (G 6 7) := (hU35 6 7 (by decide)).trans ((hU23 6 7 (by decide)).trans (jU17 6 7 (by decide))); (try simp only [e9_6_7, true_and, and_true]) <;> (first | omega | (simp only [Int32.reduceToInt, true_and, and_true, ne_eq, not_true_eq_false, false_and, or_false, false_or, true_or, or_true, false_implies] <;> omega))) (by (first | omega | (simp only [Int32.reduceToInt, true_and, and_true, ne_eq, not_true_eq_false, false_and, or_false, false_or, true_or, or_true, false_implies] <;> omega)))
        · refine g_aload_n F 2 dX5_bite_84 rfl rfl ?_
          refine g_dup F dX5_bite_85 rfl ?_
          refine xg_6_17 F i_X5 w_18 dX5_bite_86 (Gj17 6 17) (rfl) ?_
          refine g_iconst F 1 dX5_bite_89 (by decide) ?_
          refine g_iadd F dX5_bite_90 ?_
          refine xp_6_17 F i_X5 w_18 dX5_bite_91 ?_
          refine g_goto F 203 dX5_bite_94 (by decide) ?_
          refine u_iinc F (fun v_ => [(6, .int v_), (8, .int ((((Gj17 45) (r8.toInt).toNat) - p2) - (G 6 13))), (7, .int r8), (0, .ref (a 6)), (1, .int p0), (2, .int p1), (3, .int p2), (4, .int (G 18 0)), (5, .int x17_5)]) dX5_bite_203 (j := 8) rfl x17_6.toInt 1 rfl rfl (by omega) (by omega) (by decide) (fun _ => rfl) (fun y46 ey46 => ?_)
          refine g_goto F 17 dX5_bite_206 (by decide) ?_
          refine g_locals [(0, .ref (a 6)), (1, .int p0), (2, .int p1), (3, .int p2), (4, .int (G 18 0)), (5, .int x17_5), (6, .int y46)] [3, 4, 5, 6, 7, 8, 0] rfl ?_
          exact ih_17 x17_5 y46 (gu_up Gj17 6 17 ((Gj17 6 17) + 1)) (by omega) (by have h9 := ti_rng x17_5; omega) (by have h9 := ti_rng y46; omega) (gu_I.up (j := 6) (k := 17) (v := ((Gj17 6 17) + 1)) jI17 (ti_rng _).1 (ti_rng _).2) (gu_un.up (j := 6) (k := 17) (v := ((Gj17 6 17) + 1)) (gu_un.tr gu_un.rf (gu_un.su jU17 rfl)) (show (618 : Nat) ∈ ([613, 618, 2100, 2700, 4500, 4600, 4700, 4800] : List Nat) by decide)) (fun Q S C hq hs => by obtain ⟨h1, h2⟩ := bt Q S C hq hs; have hp := psP_of (Q := Q) (i := s0) (k := (x17_6.toInt).toNat) (t := G 44 (x17_6.toInt).toNat) (s := G 18 0) q11 (by omega) (by omega) (hq.2.1 _ (by omega)) hq.1; have hcut : p2 + (G 6 13) = psF Q p1 + (G 6 13) := (by rw [hq.2.2.1]); have hc := pR.chp h1 hp (by omega) hcut (i32_ss _ _ _); exact ⟨pR.out h1 hc (by omega) rfl (by omega), pL.out h2 hc (by omega) (by omega)⟩) (by have e9_6_7 : (gu_up Gj17 6 17 ((Gj17 6 17) + 1)) 6 7 = (G 6 7) := jU17 6 7 (by decide); (try simp only [e9_6_7, true_and, and_true]) <;> (first | omega | (simp only [Int32.reduceToInt, true_and, and_true, ne_eq, not_true_eq_false, false_and, or_false, false_or, true_or, or_true, false_implies] <;> omega))) (by (first | omega | (simp only [Int32.reduceToInt, true_and, and_true, ne_eq, not_true_eq_false, false_and, or_false, false_or, true_or, or_true, false_implies] <;> omega)))
  refine g_aload_n F 0 dX5_bite_0 rfl rfl ?_
  refine xg_6_0 F i_X5 w_8 dX5_bite_1 ?_
  refine xg_2_0 F i_X7 w_19 dX5_bite_4 ?_
  refine g_iconst F 0 dX5_bite_7 (by decide) ?_
  refine u1_iald F 18 0 xc_18 rfl 0 rfl (by decide) (by decide) dX5_bite_8 (G 18 0) (rfl) ?_
  refine g_istore F [(4, .int (G 18 0)), (0, .ref (a 6)), (1, .int p0), (2, .int p1), (3, .int p2)] dX5_bite_9 (by decide) rfl ?_
  refine g_iconst F 0 dX5_bite_11 (by decide) ?_
  refine g_istore F [(5, .int 0), (4, .int (G 18 0)), (0, .ref (a 6)), (1, .int p0), (2, .int p1), (3, .int p2)] dX5_bite_12 (by decide) rfl ?_
  refine g_iconst F 0 dX5_bite_14 (by decide) ?_
  refine g_istore F [(6, .int 0), (5, .int 0), (4, .int (G 18 0)), (0, .ref (a 6)), (1, .int p0), (2, .int p1), (3, .int p2)] dX5_bite_15 (by decide) rfl ?_
  refine g_locals [(0, .ref (a 6)), (1, .int p0), (2, .int p1), (3, .int p2), (4, .int (G 18 0)), (5, .int 0), (6, .int 0)] [3, 4, 5, 6, 2, 1, 0] rfl ?_
  exact J_17 _ 0 0 G (Nat.lt_succ_self _) (by decide) (by decide) hI gu_un.rf (fun Q S C hq hs => hs) (by (first | omega | (simp only [Int32.reduceToInt, true_and, and_true, ne_eq, not_true_eq_false, false_and, or_false, false_or, true_or, or_true, false_implies] <;> omega))) (by (first | omega | (simp only [Int32.reduceToInt, true_and, and_true, ne_eq, not_true_eq_false, false_and, or_false, false_or, true_or, or_true, false_implies] <;> omega)))


set_option maxHeartbeats 4000000 in
set_option maxRecDepth 100000 in
theorem S_X3_value_12 (l : Launch) (D : va_G) (K : Nat → ClassId) (a : Nat → Nat) (G : gS) (p0 : Int32) (s0 : Int) (p1 : Int32) (s1 : Int) (e0 : p0.toInt = s0) (e1 : p1.toInt = s1) (hI : xI G) (sz : Nat) : Ki l yX3_value wsX3_value 2 62 0 0 D [.ref (a 12), .int p0, .int p1] (xW K a G) (tK K) sz (fun (r : Int32) (G' : gS) => (xI G') ∧ (gu_un xcd [2400] G G') ∧ ((gcOK (tkr (G 23) ((G 12 1).toInt).toNat) → r.toInt = (eV p0 p1 (tkr (G 23) ((G 12 1).toInt).toNat)).toInt))) (fun (G' : gS) => (xW K a G')) (fun _ => (tK K)) := by
  unfold Ki
  refine g_ofW (cc := cX3_value) (lv := [(0, .ref (a 12)), (1, .int p0), (2, .int p1)]) (by decide) rfl (Nat.le_of_ble_eq_true rfl) rfl ?_
  intro p e s m args below meth c A Q hA hQ F hr hnm
  have hts := F.2.2.2.2.1
  have w_0 : (Cond.fieldLink RX3 21 "QuietCut$Formula" "length" "I").before args s = true := hts _ (List.mem_of_getElem? (i := 1) rfl)
  have i_X3 : ∀ w ∈ u_ws RX3 TX3 9, w ∈ wsX3_value := fun _ h => List.mem_cons_of_mem _ (List.mem_append_right _ h)
  have w_1 : (Cond.fieldLink RX3 15 "QuietCut$Formula" "stack" "[I").before args s = true := hts _ (List.mem_of_getElem? (i := 3) rfl)
  have w_2 : (Cond.fieldLink RX3 11 "QuietCut$Formula" "codes" "[I").before args s = true := hts _ (List.mem_of_getElem? (i := 2) rfl)
  have rg0 : -2147483648 ≤ s0 ∧ s0 ≤ 2147483647 := e0 ▸ ti_rng p0
  have rg1 : -2147483648 ≤ s1 ∧ s1 ≤ 2147483647 := e1 ▸ ti_rng p1
  have b1 : (0 : Int) ≤ (G 12 1).toInt ∧ (G 12 1).toInt ≤ 80 := hI 12 1
  have J_5 : ∀ (fuel : Nat) (x5_3 : Int32) (x5_4 : Int32) (Gj5 : gS), (2147483647 - x5_4.toInt).toNat < fuel → (0 ≤ x5_3.toInt ∧ x5_3.toInt ≤ 12) → (0 ≤ x5_4.toInt ∧ x5_4.toInt ≤ 80) → (xI Gj5) → (gu_un xcd [2400] G Gj5) → (gcOK (tkr (G 23) ((G 12 1).toInt).toNat) → skr (Gj5 24) (x5_3.toInt).toNat = eS p0 p1 (tkr (G 23) (x5_4.toInt).toNat)) → ((x5_4.toInt ≤ (G 12 1).toInt)) → gG p l e (gR 2 0 0 62) s m args below meth c D A 6 Q 0 0 (xW K a Gj5) (tK K) [(0, .ref (a 12)), (1, .int p0), (2, .int p1), (3, .int x5_3), (4, .int x5_4)] 5 [] := by
    intro fuel
    induction fuel with
    | zero => intro x5_3 x5_4 Gj5 hm; exact absurd hm (Nat.not_lt_zero _)
    | succ fuel_5 ih_5 =>
      intro x5_3 x5_4 Gj5 hm_5 h5_3 h5_4 jI5 jU5 ev il
      refine g_iload F 4 dX3_value_5 rfl ?_
      refine g_aload_n F 0 dX3_value_7 rfl rfl ?_
      refine xg_12_1 F i_X3 w_0 dX3_value_8 (G 12 1) (jU5 12 1 (by decide)) ?_
      refine v_icmp_ge F 160 dX3_value_11 (by decide) x5_4.toInt (G 12 1).toInt rfl rfl (fun c2 => ?_) (fun c2 => ?_)
      · refine g_iload_n F 3 dX3_value_160 rfl rfl ?_
        refine g_iconst F 1 dX3_value_161 (by decide) ?_
        refine v_icmp_ne F 174 dX3_value_162 (by decide) x5_3.toInt 1 rfl rfl (fun c3 => ?_) (fun c3 => ?_)
        · refine g_iconst F 0 dX3_value_174 (by decide) ?_
          exact u_iret F hA hQ hr Gj5 (⟨jI5, (gu_un.tr gu_un.rf (gu_un.su jU5 rfl)), (fun hg => by have h9 := vFin hg (by omega) (i := x5_4.toInt) (by omega) (ev hg); first | (rw [h9.2]; done) | (have h8 := h9.1; exfalso; omega))⟩) rfl rfl dX3_value_175
        · refine g_aload_n F 0 dX3_value_165 rfl rfl ?_
          refine xg_12_2 F i_X3 w_1 dX3_value_166 ?_
          refine g_iconst F 0 dX3_value_169 (by decide) ?_
          refine u1_iald F 24 0 xc_24 rfl 0 rfl (by decide) (by decide) dX3_value_170 (Gj5 24 0) (rfl) ?_
          refine g_goto F 175 dX3_value_171 (by decide) ?_
          exact u_iret F hA hQ hr Gj5 (⟨jI5, (gu_un.tr gu_un.rf (gu_un.su jU5 rfl)), (fun hg => by have h9 := vFin hg (by omega) (i := x5_4.toInt) (by omega) (ev hg); first | (rw [h9.2]; done) | (have h8 := h9.1; exfalso; omega))⟩) rfl rfl dX3_value_175
      · refine g_iload F 4 dX3_value_14 rfl ?_
        refine g_bipush F 80 dX3_value_16 (by decide) ?_
        refine v_icmp_ge F 160 dX3_value_18 (by decide) x5_4.toInt 80 rfl rfl (fun c4 => absurd c4 (by omega)) (fun c4 => ?_)
        refine g_aload_n F 0 dX3_value_21 rfl rfl ?_
        refine xg_12_0 F i_X3 w_2 dX3_value_22 ?_
        refine g_iload F 4 dX3_value_25 rfl ?_
        refine u1_iald F 23 0 xc_23 rfl x5_4.toInt rfl (by omega) (by omega) dX3_value_27 ((G 23) (x5_4.toInt).toNat) (congrFun ((show Gj5 23 = G 23 from funext fun k_ => jU5 23 k_ (show (2300 : Nat) ∉ ([2400] : List Nat) by decide))) _) ?_
        refine g_istore F [(5, .int ((G 23) (x5_4.toInt).toNat)), (0, .ref (a 12)), (1, .int p0), (2, .int p1), (3, .int x5_3), (4, .int x5_4)] dX3_value_28 (by decide) rfl ?_
        refine g_iload F 0 dX3_value_30 rfl ?_
        refine g_bipush F (-2) dX3_value_32 (by decide) ?_
        refine v_icmp_lt F 80 dX3_value_34 (by decide) ((G 23) (x5_4.toInt).toNat).toInt (-2) rfl rfl (fun c5 => ?_) (fun c5 => ?_)
        · refine g_iload F 0 dX3_value_80 rfl ?_
          refine g_bipush F (-3) dX3_value_82 (by decide) ?_
          have b6 := ti_rng ((G 23) (x5_4.toInt).toNat)
          refine v_icmp_ne F 114 dX3_value_84 (by decide) ((G 23) (x5_4.toInt).toNat).toInt (-3) rfl rfl (fun c7 => ?_) (fun c7 => ?_)
          · refine g_iload_n F 4 dX3_value_114 rfl rfl ?_
            refine g_iconst F 2 dX3_value_115 (by decide) ?_
            refine v_icmp_ge F 121 dX3_value_116 (by decide) x5_3.toInt 2 rfl rfl (fun c8 => ?_) (fun c8 => ?_)
            · refine u_iinc F (fun v_ => [(3, .int v_), (5, .int ((G 23) (x5_4.toInt).toNat)), (0, .ref (a 12)), (1, .int p0), (2, .int p1), (4, .int x5_4)]) dX3_value_121 (j := 4) rfl x5_3.toInt (-1) rfl rfl (by omega) (by omega) (by decide) (fun _ => rfl) (fun y9 ey9 => ?_)
              refine g_aload_n F 2 dX3_value_124 rfl rfl ?_
              refine xg_12_2 F i_X3 w_1 dX3_value_125 ?_
              refine g_iload_n F 0 dX3_value_128 rfl rfl ?_
              refine g_iconst F 1 dX3_value_129 (by decide) ?_
              refine u_isub F dX3_value_130 y9.toInt 1 rfl rfl (by omega) (by omega) (fun y10 ey10 => ?_)
              refine g_bipush F (-3) dX3_value_131 (by decide) ?_
              refine g_iload F 1 dX3_value_133 rfl ?_
              refine u_isub F dX3_value_135 (-3) ((G 23) (x5_4.toInt).toNat).toInt rfl rfl (by omega) (by omega) (fun y11 ey11 => ?_)
              refine g_aload_n F 2 dX3_value_136 rfl rfl ?_
              refine xg_12_2 F i_X3 w_1 dX3_value_137 ?_
              refine g_iload_n F 0 dX3_value_140 rfl rfl ?_
              refine g_iconst F 1 dX3_value_141 (by decide) ?_
              refine u_isub F dX3_value_142 y9.toInt 1 rfl rfl (by omega) (by omega) (fun y12 ey12 => ?_)
              refine u1_iald F 24 0 xc_24 rfl y12.toInt rfl (by omega) (by omega) dX3_value_143 ((Gj5 24) ((y9.toInt - 1)).toNat) (by rw [show y12.toInt = (y9.toInt - 1) by omega] <;> rfl) ?_
              refine g_aload_n F 2 dX3_value_144 rfl rfl ?_
              refine xg_12_2 F i_X3 w_1 dX3_value_145 ?_
              refine g_iload_n F 0 dX3_value_148 rfl rfl ?_
              refine u1_iald F 24 0 xc_24 rfl y9.toInt rfl (by omega) (by omega) dX3_value_149 ((Gj5 24) (y9.toInt).toNat) (rfl) ?_
              refine u_call0 (k := 0) (n := 0) (As := [.int y11, .int ((Gj5 24) ((y9.toInt - 1)).toNat), .int ((Gj5 24) (y9.toInt).toNat)]) (st := [.int y10, .ref (a 24)]) F (fun sz => S_X3_joined l D y11 y11.toInt ((Gj5 24) ((y9.toInt - 1)).toNat) ((Gj5 24) ((y9.toInt - 1)).toNat).toInt ((Gj5 24) (y9.toInt).toNat) ((Gj5 24) (y9.toInt).toNat).toInt rfl rfl rfl sz) (va_cwS 3 hts gX3_value_X3_joined rfl rfl rfl (by decide +kernel) ⟨Nat.le_of_ble_eq_true rfl, Nat.le_of_ble_eq_true rfl⟩) rfl (Nat.le_of_ble_eq_true rfl) ⟨Nat.zero_le _, Nat.zero_le _⟩ dX3_value_150 (fun r13 _ hw14 => ?_)
              have q16 : (r13.toInt = (eJ y11.toInt ((Gj5 24) ((y9.toInt - 1)).toNat) ((Gj5 24) (y9.toInt).toNat)).toInt) := hw14
              clear hw14
              refine u_iast F 24 0 xc_24 rfl y10.toInt rfl (by omega) (by omega) (xW K a (gu_up Gj5 24 (y10.toInt).toNat r13)) (xs_24 _) dX3_value_153 ?_
              refine u_iinc F (fun v_ => [(4, .int v_), (3, .int y9), (5, .int ((G 23) (x5_4.toInt).toNat)), (0, .ref (a 12)), (1, .int p0), (2, .int p1)]) dX3_value_154 (j := 5) rfl x5_4.toInt 1 rfl rfl (by omega) (by omega) (by decide) (fun _ => rfl) (fun y17 ey17 => ?_)
              refine g_goto F 5 dX3_value_157 (by decide) ?_
              refine g_locals [(0, .ref (a 12)), (1, .int p0), (2, .int p1), (3, .int y9), (4, .int y17)] [3, 4, 5, 1, 0] rfl ?_
              exact ih_5 y9 y17 (gu_up Gj5 24 (y10.toInt).toNat r13) (by omega) (by have h9 := ti_rng y9; omega) (by have h9 := ti_rng y17; omega) (gu_I.up (j := 24) (k := (y10.toInt).toNat) (v := r13) jI5 (ti_rng _).1 (ti_rng _).2) (gu_un.up (j := 24) (k := (y10.toInt).toNat) (v := r13) (gu_un.tr gu_un.rf (gu_un.su jU5 rfl)) (show (2400 : Nat) ∈ ([2400] : List Nat) by decide)) (fun hg => by rw [tkr_nx (f := G 23) (i := x5_4.toInt) (by omega) (by omega)]; have hsg := vSg (vAt hg (i := x5_4.toInt) (by omega) (by omega)) (by omega); exact vJoin (ev hg) (by omega) (show (gu_up Gj5 24 (y10.toInt).toNat r13) 24 = (upd (Gj5 24) (y10.toInt).toNat r13) from rfl) q16 (by omega) (by omega) (by omega) (by omega) (by omega) (by omega)) (by have h9 := (show (0 : Int) ≤ (G 12 1).toInt ∧ (G 12 1).toInt ≤ 80 from hI 12 1); (first | omega | (simp only [Int32.reduceToInt, true_and, and_true, ne_eq, not_true_eq_false, false_and, or_false, false_or, true_or, or_true, false_implies] <;> omega)))
            · refine g_iconst F 0 dX3_value_119 (by decide) ?_
              exact u_iret F hA hQ hr Gj5 (⟨jI5, (gu_un.tr gu_un.rf (gu_un.su jU5 rfl)), (fun hg => (vE3 hg (i := x5_4.toInt) (by omega) (by omega) (ev hg) (by omega) (by omega)).elim)⟩) rfl rfl dX3_value_120
          · refine g_iload_n F 4 dX3_value_87 rfl rfl ?_
            refine g_iconst F 1 dX3_value_88 (by decide) ?_
            refine v_icmp_ge F 94 dX3_value_89 (by decide) x5_3.toInt 1 rfl rfl (fun c18 => ?_) (fun c18 => ?_)
            · refine g_aload_n F 1 dX3_value_94 rfl rfl ?_
              refine xg_12_2 F i_X3 w_1 dX3_value_95 ?_
              refine g_iload_n F 4 dX3_value_98 rfl rfl ?_
              refine g_iconst F 1 dX3_value_99 (by decide) ?_
              refine u_isub F dX3_value_100 x5_3.toInt 1 rfl rfl (by omega) (by omega) (fun y19 ey19 => ?_)
              refine g_aload_n F 1 dX3_value_101 rfl rfl ?_
              refine xg_12_2 F i_X3 w_1 dX3_value_102 ?_
              refine g_iload_n F 4 dX3_value_105 rfl rfl ?_
              refine g_iconst F 1 dX3_value_106 (by decide) ?_
              refine u_isub F dX3_value_107 x5_3.toInt 1 rfl rfl (by omega) (by omega) (fun y20 ey20 => ?_)
              refine u1_iald F 24 0 xc_24 rfl y20.toInt rfl (by omega) (by omega) dX3_value_108 ((Gj5 24) ((x5_3.toInt - 1)).toNat) (by rw [show y20.toInt = (x5_3.toInt - 1) by omega] <;> rfl) ?_
              refine g_ineg F dX3_value_109 ?_
              have ng22 : -2147483648 < ((Gj5 24) ((x5_3.toInt - 1)).toNat).toInt → ((-((Gj5 24) ((x5_3.toInt - 1)).toNat)) : Int32).toInt = -((Gj5 24) ((x5_3.toInt - 1)).toNat).toInt := fun h9 => ti_neg rfl h9
              refine u_iast F 24 0 xc_24 rfl y19.toInt rfl (by omega) (by omega) (xW K a (gu_up Gj5 24 (y19.toInt).toNat (-((Gj5 24) ((x5_3.toInt - 1)).toNat)))) (xs_24 _) dX3_value_110 ?_
              refine g_goto F 154 dX3_value_111 (by decide) ?_
              refine u_iinc F (fun v_ => [(4, .int v_), (5, .int ((G 23) (x5_4.toInt).toNat)), (0, .ref (a 12)), (1, .int p0), (2, .int p1), (3, .int x5_3)]) dX3_value_154 (j := 5) rfl x5_4.toInt 1 rfl rfl (by omega) (by omega) (by decide) (fun _ => rfl) (fun y23 ey23 => ?_)
              refine g_goto F 5 dX3_value_157 (by decide) ?_
              refine g_locals [(0, .ref (a 12)), (1, .int p0), (2, .int p1), (3, .int x5_3), (4, .int y23)] [2, 3, 4, 5, 0] rfl ?_
              exact ih_5 x5_3 y23 (gu_up Gj5 24 (y19.toInt).toNat (-((Gj5 24) ((x5_3.toInt - 1)).toNat))) (by omega) (by have h9 := ti_rng x5_3; omega) (by have h9 := ti_rng y23; omega) (gu_I.up (j := 24) (k := (y19.toInt).toNat) (v := (-((Gj5 24) ((x5_3.toInt - 1)).toNat))) jI5 (ti_rng _).1 (ti_rng _).2) (gu_un.up (j := 24) (k := (y19.toInt).toNat) (v := (-((Gj5 24) ((x5_3.toInt - 1)).toNat))) (gu_un.tr gu_un.rf (gu_un.su jU5 rfl)) (show (2400 : Nat) ∈ ([2400] : List Nat) by decide)) (fun hg => by rw [tkr_nx (f := G 23) (i := x5_4.toInt) (by omega) (by omega)]; exact vNeg (ev hg) (by omega) (show (gu_up Gj5 24 (y19.toInt).toNat (-((Gj5 24) ((x5_3.toInt - 1)).toNat))) 24 = (upd (Gj5 24) (y19.toInt).toNat (-((Gj5 24) ((x5_3.toInt - 1)).toNat))) from rfl) (by omega) (by omega) (by omega)) (by have h9 := (show (0 : Int) ≤ (G 12 1).toInt ∧ (G 12 1).toInt ≤ 80 from hI 12 1); (first | omega | (simp only [Int32.reduceToInt, true_and, and_true, ne_eq, not_true_eq_false, false_and, or_false, false_or, true_or, or_true, false_implies] <;> omega)))
            · refine g_iconst F 0 dX3_value_92 (by decide) ?_
              exact u_iret F hA hQ hr Gj5 (⟨jI5, (gu_un.tr gu_un.rf (gu_un.su jU5 rfl)), (fun hg => (vE2 hg (i := x5_4.toInt) (by omega) (by omega) (ev hg) (by omega) (by omega)).elim)⟩) rfl rfl dX3_value_93
        · refine g_iload_n F 4 dX3_value_37 rfl rfl ?_
          refine g_bipush F 12 dX3_value_38 (by decide) ?_
          refine v_icmp_lt F 45 dX3_value_40 (by decide) x5_3.toInt 12 rfl rfl (fun c24 => ?_) (fun c24 => ?_)
          · refine g_aload_n F 1 dX3_value_45 rfl rfl ?_
            refine xg_12_2 F i_X3 w_1 dX3_value_46 ?_
            refine g_iload_n F 4 dX3_value_49 rfl rfl ?_
            refine g_iload F 0 dX3_value_50 rfl ?_
            refine g_iconst F (-1) dX3_value_52 (by decide) ?_
            have b25 := ti_rng ((G 23) (x5_4.toInt).toNat)
            refine v_icmp_ne F 60 dX3_value_53 (by decide) ((G 23) (x5_4.toInt).toNat).toInt (-1) rfl rfl (fun c26 => ?_) (fun c26 => ?_)
            · refine g_iload F 0 dX3_value_60 rfl ?_
              refine g_bipush F (-2) dX3_value_62 (by decide) ?_
              refine v_icmp_ne F 71 dX3_value_64 (by decide) ((G 23) (x5_4.toInt).toNat).toInt (-2) rfl rfl (fun c27 => ?_) (fun c27 => ?_)
              · refine g_iload F 0 dX3_value_71 rfl ?_
                refine u_iast F 24 0 xc_24 rfl x5_3.toInt rfl (by omega) (by omega) (xW K a (gu_up Gj5 24 (x5_3.toInt).toNat ((G 23) (x5_4.toInt).toNat))) (xs_24 _) dX3_value_73 ?_
                refine u_iinc F (fun v_ => [(3, .int v_), (5, .int ((G 23) (x5_4.toInt).toNat)), (0, .ref (a 12)), (1, .int p0), (2, .int p1), (4, .int x5_4)]) dX3_value_74 (j := 4) rfl x5_3.toInt 1 rfl rfl (by omega) (by omega) (by decide) (fun _ => rfl) (fun y28 ey28 => ?_)
                refine g_goto F 154 dX3_value_77 (by decide) ?_
                refine u_iinc F (fun v_ => [(4, .int v_), (3, .int y28), (5, .int ((G 23) (x5_4.toInt).toNat)), (0, .ref (a 12)), (1, .int p0), (2, .int p1)]) dX3_value_154 (j := 5) rfl x5_4.toInt 1 rfl rfl (by omega) (by omega) (by decide) (fun _ => rfl) (fun y29 ey29 => ?_)
                refine g_goto F 5 dX3_value_157 (by decide) ?_
                refine g_locals [(0, .ref (a 12)), (1, .int p0), (2, .int p1), (3, .int y28), (4, .int y29)] [3, 4, 5, 1, 0] rfl ?_
                exact ih_5 y28 y29 (gu_up Gj5 24 (x5_3.toInt).toNat ((G 23) (x5_4.toInt).toNat)) (by omega) (by have h9 := ti_rng y28; omega) (by have h9 := ti_rng y29; omega) (gu_I.up (j := 24) (k := (x5_3.toInt).toNat) (v := ((G 23) (x5_4.toInt).toNat)) jI5 (ti_rng _).1 (ti_rng _).2) (gu_un.up (j := 24) (k := (x5_3.toInt).toNat) (v := ((G 23) (x5_4.toInt).toNat)) (gu_un.tr gu_un.rf (gu_un.su jU5 rfl)) (show (2400 : Nat) ∈ ([2400] : List Nat) by decide)) (fun hg => by rw [tkr_nx (f := G 23) (i := x5_4.toInt) (by omega) (by omega)]; exact vPush (ev hg) (by omega) (by omega) (show (gu_up Gj5 24 (x5_3.toInt).toNat ((G 23) (x5_4.toInt).toNat)) 24 = (upd (Gj5 24) (x5_3.toInt).toNat ((G 23) (x5_4.toInt).toNat)) from rfl) (by first | exact eP_1 (by omega) | exact eP_2 (by omega) | exact eP_3 (by omega) (by omega) (by omega)) (by omega)) (by have h9 := (show (0 : Int) ≤ (G 12 1).toInt ∧ (G 12 1).toInt ≤ 80 from hI 12 1); (first | omega | (simp only [Int32.reduceToInt, true_and, and_true, ne_eq, not_true_eq_false, false_and, or_false, false_or, true_or, or_true, false_implies] <;> omega)))
              · refine g_iload_n F 3 dX3_value_67 rfl rfl ?_
                refine g_goto F 73 dX3_value_68 (by decide) ?_
                refine u_iast F 24 0 xc_24 rfl x5_3.toInt rfl (by omega) (by omega) (xW K a (gu_up Gj5 24 (x5_3.toInt).toNat p1)) (xs_24 _) dX3_value_73 ?_
                refine u_iinc F (fun v_ => [(3, .int v_), (5, .int ((G 23) (x5_4.toInt).toNat)), (0, .ref (a 12)), (1, .int p0), (2, .int p1), (4, .int x5_4)]) dX3_value_74 (j := 4) rfl x5_3.toInt 1 rfl rfl (by omega) (by omega) (by decide) (fun _ => rfl) (fun y30 ey30 => ?_)
                refine g_goto F 154 dX3_value_77 (by decide) ?_
                refine u_iinc F (fun v_ => [(4, .int v_), (3, .int y30), (5, .int ((G 23) (x5_4.toInt).toNat)), (0, .ref (a 12)), (1, .int p0), (2, .int p1)]) dX3_value_154 (j := 5) rfl x5_4.toInt 1 rfl rfl (by omega) (by omega) (by decide) (fun _ => rfl) (fun y31 ey31 => ?_)
                refine g_goto F 5 dX3_value_157 (by decide) ?_
                refine g_locals [(0, .ref (a 12)), (1, .int p0), (2, .int p1), (3, .int y30), (4, .int y31)] [3, 4, 5, 1, 0] rfl ?_
                exact ih_5 y30 y31 (gu_up Gj5 24 (x5_3.toInt).toNat p1) (by omega) (by have h9 := ti_rng y30; omega) (by have h9 := ti_rng y31; omega) (gu_I.up (j := 24) (k := (x5_3.toInt).toNat) (v := p1) jI5 (ti_rng _).1 (ti_rng _).2) (gu_un.up (j := 24) (k := (x5_3.toInt).toNat) (v := p1) (gu_un.tr gu_un.rf (gu_un.su jU5 rfl)) (show (2400 : Nat) ∈ ([2400] : List Nat) by decide)) (fun hg => by rw [tkr_nx (f := G 23) (i := x5_4.toInt) (by omega) (by omega)]; exact vPush (ev hg) (by omega) (by omega) (show (gu_up Gj5 24 (x5_3.toInt).toNat p1) 24 = (upd (Gj5 24) (x5_3.toInt).toNat p1) from rfl) (by first | exact eP_1 (by omega) | exact eP_2 (by omega) | exact eP_3 (by omega) (by omega) (by omega)) (by omega)) (by have h9 := (show (0 : Int) ≤ (G 12 1).toInt ∧ (G 12 1).toInt ≤ 80 from hI 12 1); (first | omega | (simp only [Int32.reduceToInt, true_and, and_true, ne_eq, not_true_eq_false, false_and, or_false, false_or, true_or, or_true, false_implies] <;> omega)))
            · refine g_iload_n F 2 dX3_value_56 rfl rfl ?_
              refine g_goto F 73 dX3_value_57 (by decide) ?_
              refine u_iast F 24 0 xc_24 rfl x5_3.toInt rfl (by omega) (by omega) (xW K a (gu_up Gj5 24 (x5_3.toInt).toNat p0)) (xs_24 _) dX3_value_73 ?_
              refine u_iinc F (fun v_ => [(3, .int v_), (5, .int ((G 23) (x5_4.toInt).toNat)), (0, .ref (a 12)), (1, .int p0), (2, .int p1), (4, .int x5_4)]) dX3_value_74 (j := 4) rfl x5_3.toInt 1 rfl rfl (by omega) (by omega) (by decide) (fun _ => rfl) (fun y32 ey32 => ?_)
              refine g_goto F 154 dX3_value_77 (by decide) ?_
              refine u_iinc F (fun v_ => [(4, .int v_), (3, .int y32), (5, .int ((G 23) (x5_4.toInt).toNat)), (0, .ref (a 12)), (1, .int p0), (2, .int p1)]) dX3_value_154 (j := 5) rfl x5_4.toInt 1 rfl rfl (by omega) (by omega) (by decide) (fun _ => rfl) (fun y33 ey33 => ?_)
              refine g_goto F 5 dX3_value_157 (by decide) ?_
              refine g_locals [(0, .ref (a 12)), (1, .int p0), (2, .int p1), (3, .int y32), (4, .int y33)] [3, 4, 5, 1, 0] rfl ?_
              exact ih_5 y32 y33 (gu_up Gj5 24 (x5_3.toInt).toNat p0) (by omega) (by have h9 := ti_rng y32; omega) (by have h9 := ti_rng y33; omega) (gu_I.up (j := 24) (k := (x5_3.toInt).toNat) (v := p0) jI5 (ti_rng _).1 (ti_rng _).2) (gu_un.up (j := 24) (k := (x5_3.toInt).toNat) (v := p0) (gu_un.tr gu_un.rf (gu_un.su jU5 rfl)) (show (2400 : Nat) ∈ ([2400] : List Nat) by decide)) (fun hg => by rw [tkr_nx (f := G 23) (i := x5_4.toInt) (by omega) (by omega)]; exact vPush (ev hg) (by omega) (by omega) (show (gu_up Gj5 24 (x5_3.toInt).toNat p0) 24 = (upd (Gj5 24) (x5_3.toInt).toNat p0) from rfl) (by first | exact eP_1 (by omega) | exact eP_2 (by omega) | exact eP_3 (by omega) (by omega) (by omega)) (by omega)) (by have h9 := (show (0 : Int) ≤ (G 12 1).toInt ∧ (G 12 1).toInt ≤ 80 from hI 12 1); (first | omega | (simp only [Int32.reduceToInt, true_and, and_true, ne_eq, not_true_eq_false, false_and, or_false, false_or, true_or, or_true, false_implies] <;> omega)))
          · refine g_iconst F 0 dX3_value_43 (by decide) ?_
            exact u_iret F hA hQ hr Gj5 (⟨jI5, (gu_un.tr gu_un.rf (gu_un.su jU5 rfl)), (fun hg => (vE1 hg (i := x5_4.toInt) (by omega) (by omega) (ev hg) (by omega) (by omega)).elim)⟩) rfl rfl dX3_value_44
  refine g_iconst F 0 dX3_value_0 (by decide) ?_
  refine g_istore_n F [(3, .int 0), (0, .ref (a 12)), (1, .int p0), (2, .int p1)] dX3_value_1 rfl (by decide) rfl ?_
  refine g_iconst F 0 dX3_value_2 (by decide) ?_
  refine g_istore F [(4, .int 0), (3, .int 0), (0, .ref (a 12)), (1, .int p0), (2, .int p1)] dX3_value_3 (by decide) rfl ?_
  refine g_locals [(0, .ref (a 12)), (1, .int p0), (2, .int p1), (3, .int 0), (4, .int 0)] [2, 3, 4, 1, 0] rfl ?_
  exact J_5 _ 0 0 G (Nat.lt_succ_self _) (by decide) (by decide) hI gu_un.rf (fun _ => rfl) (by have h9 := (show (0 : Int) ≤ (G 12 1).toInt ∧ (G 12 1).toInt ≤ 80 from hI 12 1); (first | omega | (simp only [Int32.reduceToInt, true_and, and_true, ne_eq, not_true_eq_false, false_and, or_false, false_or, true_or, or_true, false_implies] <;> omega)))


set_option maxHeartbeats 4000000 in
set_option maxRecDepth 100000 in
theorem S_X5_least_45 (l : Launch) (D : va_G) (K : Nat → ClassId) (a : Nat → Nat) (G : gS) (p1 : Int32) (s1 : Int) (p2 : Int32) (s2 : Int) (e1 : p1.toInt = s1) (h1 : 0 ≤ s1 ∧ s1 ≤ 80) (e2 : p2.toInt = s2) (h2 : 1 ≤ s2 ∧ s2 ≤ 16) (hI : xI G) (sz : Nat) : Ki l yX5_least wsX5_least 1 40 0 0 D [.ref (a 45), .int p1, .int p2] (xW K a G) (tK K) sz (fun (r : Int32) (_ : Unit) => ((-9998) ≤ r.toInt ∧ r.toInt ≤ 1000000) ∧ ((0 ≤ s1 ∧ 1 ≤ s2 ∧ s1 + s2 ≤ 16 → r.toInt = psMn (fun q => (G 45) (s1.toNat + q)) (s2 - 1).toNat))) (fun (_ : Unit) => (xW K a G)) (fun _ => (tK K)) := by
  unfold Ki
  refine g_ofW (cc := cX5_least) (lv := [(0, .ref (a 45)), (1, .int p1), (2, .int p2)]) (by decide) rfl (Nat.le_of_ble_eq_true rfl) rfl ?_
  intro p e s m args below meth c A Q hA hQ F hr hnm
  have hts := F.2.2.2.2.1
  have w_0 : (Cond.methodLink RX5 159 Lib.Math.min.name).before args s = true := hts _ (List.mem_of_getElem? (i := 2) rfl)
  have w_1 : (Cond.static Lib.Math.min.name).before args s = true := hts _ (List.mem_of_getElem? (i := 3) rfl)
  have w_2 : (Cond.initialized "java/lang/Math").before args s = true := hts _ (List.mem_of_getElem? (i := 4) rfl)
  have w_3 : (Cond.code Lib.Math.min.name Lib.Math.min.code 2 (some .int)).before args s = true := hts _ (List.mem_of_getElem? (i := 5) rfl)
  have w_4 : (Cond.constant RX5 163 (1000000)).before args s = true := hts _ (List.mem_of_getElem? (i := 1) rfl)
  have J_6 : ∀ (fuel : Nat) (x6_3 : Int32) (x6_4 : Int32), (2147483647 - x6_4.toInt).toNat < fuel → ((-9998) ≤ x6_3.toInt ∧ x6_3.toInt ≤ 1000000) → (0 ≤ x6_4.toInt ∧ x6_4.toInt ≤ 80) → ((0 ≤ s1 → s1 ≤ x6_4.toInt ∧ ((x6_4.toInt = s1 ∧ x6_3.toInt = 1000000) ∨ (s1 + 1 ≤ x6_4.toInt ∧ x6_3.toInt = psMn (fun q => ((G 45)) (s1.toNat + q)) (x6_4.toInt - 1 - s1).toNat)))) → ((s1 < 0 ∨ s2 < 1 ∨ 16 < s1 + s2 ∨ x6_4.toInt ≤ s1 + s2)) → gG p l e (gR 1 0 0 40) s m args below meth c D A 5 Q 0 0 (xW K a G) (tK K) [(0, .ref (a 45)), (1, .int p1), (2, .int p2), (3, .int x6_3), (4, .int x6_4)] 6 [] := by
    intro fuel
    induction fuel with
    | zero => intro x6_3 x6_4 hm; exact absurd hm (Nat.not_lt_zero _)
    | succ fuel_6 ih_6 =>
      intro x6_3 x6_4 hm_6 h6_3 h6_4 lm ib
      refine g_iload F 4 dX5_least_6 rfl ?_
      refine g_iload_n F 1 dX5_least_8 rfl rfl ?_
      refine g_iload_n F 2 dX5_least_9 rfl rfl ?_
      refine u_iadd F dX5_least_10 s1 s2 e1 e2 (by omega) (by omega) (fun y1 ey1 => ?_)
      refine v_icmp_ge F 41 dX5_least_11 (by decide) x6_4.toInt y1.toInt rfl rfl (fun c2 => ?_) (fun c2 => ?_)
      · refine g_iload_n F 3 dX5_least_41 rfl rfl ?_
        exact u_iret F hA hQ hr () (⟨(by have h9 := ti_rng x6_3; omega), (fun h9 => by rcases (lm h9.1).2 with ⟨g1, g2⟩ | ⟨g1, g2⟩ <;> first | (exfalso; omega) | (rw [g2, show x6_4.toInt - 1 - s1 = s2 - 1 by omega]))⟩) rfl rfl dX5_least_42
      · refine g_iload F 4 dX5_least_14 rfl ?_
        refine v_if_lt F 41 dX5_least_16 (by decide) x6_4.toInt rfl (fun c3 => absurd c3 (by omega)) (fun c3 => ?_)
        refine g_iload F 4 dX5_least_19 rfl ?_
        refine g_aload_n F 0 dX5_least_21 rfl rfl ?_
        refine g_alen F 45 0 xc_45 rfl 16 rfl dX5_least_22 ?_
        refine v_icmp_ge F 41 dX5_least_23 (by decide) x6_4.toInt 16 rfl rfl (fun c4 => ?_) (fun c4 => ?_)
        · refine g_iload_n F 3 dX5_least_41 rfl rfl ?_
          exact u_iret F hA hQ hr () (⟨(by have h9 := ti_rng x6_3; omega), (fun h9 => by rcases (lm h9.1).2 with ⟨g1, g2⟩ | ⟨g1, g2⟩ <;> first | (exfalso; omega) | (rw [g2, show x6_4.toInt - 1 - s1 = s2 - 1 by omega]))⟩) rfl rfl dX5_least_42
        · refine g_iload_n F 3 dX5_least_26 rfl rfl ?_
          refine g_aload_n F 0 dX5_least_27 rfl rfl ?_
          refine g_iload F 4 dX5_least_28 rfl ?_
          refine u1_iald F 45 0 xc_45 rfl x6_4.toInt rfl (by omega) (by omega) dX5_least_30 ((G 45) (x6_4.toInt).toNat) (rfl) ?_
          have b5 : ((-9998) : Int) ≤ ((G 45) (x6_4.toInt).toNat).toInt ∧ ((G 45) (x6_4.toInt).toNat).toInt ≤ 5000 := hI 45 _
          refine u_mmin F w_0 w_1 w_2 w_3 (Nat.le_of_ble_eq_true rfl) (Nat.le_of_ble_eq_true rfl) (Nat.le_of_ble_eq_true rfl) (Nat.le_of_ble_eq_true rfl) dX5_least_31 x6_3.toInt ((G 45) (x6_4.toInt).toNat).toInt rfl rfl (fun y6 ey6 => ?_)
          refine g_istore_n F [(3, .int y6), (0, .ref (a 45)), (1, .int p1), (2, .int p2), (4, .int x6_4)] dX5_least_34 rfl (by decide) rfl ?_
          refine u_iinc F (fun v_ => [(4, .int v_), (3, .int y6), (0, .ref (a 45)), (1, .int p1), (2, .int p2)]) dX5_least_35 (j := 4) rfl x6_4.toInt 1 rfl rfl (by omega) (by omega) (by decide) (fun _ => rfl) (fun y7 ey7 => ?_)
          refine g_goto F 6 dX5_least_38 (by decide) ?_
          refine g_locals [(0, .ref (a 45)), (1, .int p1), (2, .int p2), (3, .int y6), (4, .int y7)] [2, 3, 4, 1, 0] rfl ?_
          exact ih_6 y6 y7 (by omega) (by have h9 := ti_rng y6; omega) (by have h9 := ti_rng y7; omega) (fun h0 => ⟨by have h9 := (lm h0).1; omega, psMn_go (i := x6_4.toInt) (m := x6_3.toInt) h0 (lm h0).1 (by omega) (lm h0).2 (by omega) (by omega)⟩) (by first | omega | (simp only [Int32.reduceToInt, true_and, and_true, ne_eq, not_true_eq_false, false_and, or_false, false_or, true_or, or_true, false_implies] <;> omega))
  refine g_ldc F w_4 dX5_least_0 ?_
  refine g_istore_n F [(3, .int 1000000), (0, .ref (a 45)), (1, .int p1), (2, .int p2)] dX5_least_2 rfl (by decide) rfl ?_
  refine g_iload_n F 2 dX5_least_3 rfl rfl ?_
  refine g_istore F [(4, .int p1), (3, .int 1000000), (0, .ref (a 45)), (1, .int p1), (2, .int p2)] dX5_least_4 (by decide) rfl ?_
  refine g_locals [(0, .ref (a 45)), (1, .int p1), (2, .int p2), (3, .int 1000000), (4, .int p1)] [2, 3, 4, 1, 0] rfl ?_
  exact J_6 _ 1000000 p1 (Nat.lt_succ_self _) (by decide) (by have h9 := ti_rng p1; omega) (fun h0 => ⟨by omega, Or.inl ⟨by omega, by decide⟩⟩) (by first | omega | (simp only [Int32.reduceToInt, true_and, and_true, ne_eq, not_true_eq_false, false_and, or_false, false_or, true_or, or_true, false_implies] <;> omega))

theorem dX5_run_0 : decode cX5_run 0 = .ok (.aload_n 0, 1) := by decide +kernel
theorem dX5_run_1 : decode cX5_run 1 = .ok (.getfield 29, 3) := by decide +kernel
theorem dX5_run_4 : decode cX5_run 4 = .ok (.getfield 56, 3) := by decide +kernel
theorem dX5_run_7 : decode cX5_run 7 = .ok (.iconst 0, 1) := by decide +kernel
theorem dX5_run_8 : decode cX5_run 8 = .ok (.iaload, 1) := by decide +kernel
theorem dX5_run_9 : decode cX5_run 9 = .ok (.istore 5, 2) := by decide +kernel
theorem dX5_run_11 : decode cX5_run 11 = .ok (.aload_n 0, 1) := by decide +kernel
theorem dX5_run_12 : decode cX5_run 12 = .ok (.getfield 29, 3) := by decide +kernel
theorem dX5_run_15 : decode cX5_run 15 = .ok (.aload_n 0, 1) := by decide +kernel
theorem dX5_run_16 : decode cX5_run 16 = .ok (.getfield 33, 3) := by decide +kernel
theorem dX5_run_19 : decode cX5_run 19 = .ok (.invokevirtual 46, 3) := by decide +kernel
theorem dX5_run_22 : decode cX5_run 22 = .ok (.ifCond .eq 23, 3) := by decide +kernel
theorem dX5_run_25 : decode cX5_run 25 = .ok (.iload 5, 2) := by decide +kernel
theorem dX5_run_27 : decode cX5_run 27 = .ok (.iconst 1, 1) := by decide +kernel
theorem dX5_run_28 : decode cX5_run 28 = .ok (.if_icmp .lt 17, 3) := by decide +kernel
theorem dX5_run_31 : decode cX5_run 31 = .ok (.iload 5, 2) := by decide +kernel
theorem dX5_run_33 : decode cX5_run 33 = .ok (.bipush 16, 2) := by decide +kernel
theorem dX5_run_35 : decode cX5_run 35 = .ok (.if_icmp .gt 10, 3) := by decide +kernel
theorem dX5_run_38 : decode cX5_run 38 = .ok (.aload_n 1, 1) := by decide +kernel
theorem dX5_run_39 : decode cX5_run 39 = .ok (.arraylength, 1) := by decide +kernel
theorem dX5_run_40 : decode cX5_run 40 = .ok (.bipush 96, 2) := by decide +kernel
theorem dX5_run_42 : decode cX5_run 42 = .ok (.if_icmp .ge 6, 3) := by decide +kernel
theorem dX5_run_45 : decode cX5_run 45 = .ok (.bipush (-4), 2) := by decide +kernel
theorem dX5_run_47 : decode cX5_run 47 = .ok (.ireturn, 1) := by decide +kernel
theorem dX5_run_48 : decode cX5_run 48 = .ok (.aload_n 1, 1) := by decide +kernel
theorem dX5_run_49 : decode cX5_run 49 = .ok (.aload_n 0, 1) := by decide +kernel
theorem dX5_run_50 : decode cX5_run 50 = .ok (.getfield 33, 3) := by decide +kernel
theorem dX5_run_53 : decode cX5_run 53 = .ok (.iconst 0, 1) := by decide +kernel
theorem dX5_run_54 : decode cX5_run 54 = .ok (.invokestatic 59, 3) := by decide +kernel
theorem dX5_run_57 : decode cX5_run 57 = .ok (.aload_n 0, 1) := by decide +kernel
theorem dX5_run_58 : decode cX5_run 58 = .ok (.getfield 17, 3) := by decide +kernel
theorem dX5_run_61 : decode cX5_run 61 = .ok (.iconst 0, 1) := by decide +kernel
theorem dX5_run_62 : decode cX5_run 62 = .ok (.iload 5, 2) := by decide +kernel
theorem dX5_run_64 : decode cX5_run 64 = .ok (.invokestatic 65, 3) := by decide +kernel
theorem dX5_run_67 : decode cX5_run 67 = .ok (.aload_n 0, 1) := by decide +kernel
theorem dX5_run_68 : decode cX5_run 68 = .ok (.getfield 17, 3) := by decide +kernel
theorem dX5_run_71 : decode cX5_run 71 = .ok (.iconst 0, 1) := by decide +kernel
theorem dX5_run_72 : decode cX5_run 72 = .ok (.iload 5, 2) := by decide +kernel
theorem dX5_run_74 : decode cX5_run 74 = .ok (.invokestatic 71, 3) := by decide +kernel
theorem dX5_run_77 : decode cX5_run 77 = .ok (.istore 6, 2) := by decide +kernel
theorem dX5_run_79 : decode cX5_run 79 = .ok (.iload 6, 2) := by decide +kernel
theorem dX5_run_81 : decode cX5_run 81 = .ok (.aload_n 0, 1) := by decide +kernel
theorem dX5_run_82 : decode cX5_run 82 = .ok (.getfield 40, 3) := by decide +kernel
theorem dX5_run_85 : decode cX5_run 85 = .ok (.aload_n 0, 1) := by decide +kernel
theorem dX5_run_86 : decode cX5_run 86 = .ok (.getfield 43, 3) := by decide +kernel
theorem dX5_run_89 : decode cX5_run 89 = .ok (.imul, 1) := by decide +kernel
theorem dX5_run_90 : decode cX5_run 90 = .ok (.isub, 1) := by decide +kernel
theorem dX5_run_91 : decode cX5_run 91 = .ok (.iconst 1, 1) := by decide +kernel
theorem dX5_run_92 : decode cX5_run 92 = .ok (.if_icmp .ge 6, 3) := by decide +kernel
theorem dX5_run_95 : decode cX5_run 95 = .ok (.bipush (-4), 2) := by decide +kernel
theorem dX5_run_97 : decode cX5_run 97 = .ok (.ireturn, 1) := by decide +kernel
theorem dX5_run_98 : decode cX5_run 98 = .ok (.aload_n 0, 1) := by decide +kernel
theorem dX5_run_99 : decode cX5_run 99 = .ok (.aload_n 1, 1) := by decide +kernel
theorem dX5_run_100 : decode cX5_run 100 = .ok (.iload 6, 2) := by decide +kernel
theorem dX5_run_102 : decode cX5_run 102 = .ok (.invokevirtual 75, 3) := by decide +kernel
theorem dX5_run_105 : decode cX5_run 105 = .ok (.istore 7, 2) := by decide +kernel
theorem dX5_run_107 : decode cX5_run 107 = .ok (.aload_n 0, 1) := by decide +kernel
theorem dX5_run_108 : decode cX5_run 108 = .ok (.iload_n 2, 1) := by decide +kernel
theorem dX5_run_109 : decode cX5_run 109 = .ok (.invokevirtual 79, 3) := by decide +kernel
theorem dX5_run_112 : decode cX5_run 112 = .ok (.iconst 0, 1) := by decide +kernel
theorem dX5_run_113 : decode cX5_run 113 = .ok (.istore 8, 2) := by decide +kernel
theorem dX5_run_115 : decode cX5_run 115 = .ok (.iconst 0, 1) := by decide +kernel
theorem dX5_run_116 : decode cX5_run 116 = .ok (.istore 9, 2) := by decide +kernel
theorem dX5_run_118 : decode cX5_run 118 = .ok (.iconst 0, 1) := by decide +kernel
theorem dX5_run_119 : decode cX5_run 119 = .ok (.istore 10, 2) := by decide +kernel
theorem dX5_run_121 : decode cX5_run 121 = .ok (.iload 10, 2) := by decide +kernel
theorem dX5_run_123 : decode cX5_run 123 = .ok (.aload_n 0, 1) := by decide +kernel
theorem dX5_run_124 : decode cX5_run 124 = .ok (.getfield 43, 3) := by decide +kernel
theorem dX5_run_127 : decode cX5_run 127 = .ok (.if_icmp .ge 134, 3) := by decide +kernel
theorem dX5_run_130 : decode cX5_run 130 = .ok (.iload 8, 2) := by decide +kernel
theorem dX5_run_132 : decode cX5_run 132 = .ok (.ifCond .ne 129, 3) := by decide +kernel
theorem dX5_run_135 : decode cX5_run 135 = .ok (.aload_n 0, 1) := by decide +kernel
theorem dX5_run_136 : decode cX5_run 136 = .ok (.dup, 1) := by decide +kernel
theorem dX5_run_137 : decode cX5_run 137 = .ok (.getfield 83, 3) := by decide +kernel
theorem dX5_run_140 : decode cX5_run 140 = .ok (.iconst 1, 1) := by decide +kernel
theorem dX5_run_141 : decode cX5_run 141 = .ok (.iadd, 1) := by decide +kernel
theorem dX5_run_142 : decode cX5_run 142 = .ok (.putfield 83, 3) := by decide +kernel
theorem dX5_run_145 : decode cX5_run 145 = .ok (.iconst 0, 1) := by decide +kernel
theorem dX5_run_146 : decode cX5_run 146 = .ok (.istore 11, 2) := by decide +kernel
theorem dX5_run_148 : decode cX5_run 148 = .ok (.iload 11, 2) := by decide +kernel
theorem dX5_run_150 : decode cX5_run 150 = .ok (.iload 5, 2) := by decide +kernel
theorem dX5_run_152 : decode cX5_run 152 = .ok (.if_icmp .ge 103, 3) := by decide +kernel
theorem dX5_run_155 : decode cX5_run 155 = .ok (.iload 8, 2) := by decide +kernel
theorem dX5_run_157 : decode cX5_run 157 = .ok (.ifCond .ne 98, 3) := by decide +kernel
theorem dX5_run_160 : decode cX5_run 160 = .ok (.aload_n 0, 1) := by decide +kernel
theorem dX5_run_161 : decode cX5_run 161 = .ok (.iload 11, 2) := by decide +kernel
theorem dX5_run_163 : decode cX5_run 163 = .ok (.iload 10, 2) := by decide +kernel
theorem dX5_run_165 : decode cX5_run 165 = .ok (.iload 6, 2) := by decide +kernel
theorem dX5_run_167 : decode cX5_run 167 = .ok (.aload_n 0, 1) := by decide +kernel
theorem dX5_run_168 : decode cX5_run 168 = .ok (.getfield 40, 3) := by decide +kernel
theorem dX5_run_171 : decode cX5_run 171 = .ok (.iload 10, 2) := by decide +kernel
theorem dX5_run_173 : decode cX5_run 173 = .ok (.iconst 1, 1) := by decide +kernel
theorem dX5_run_174 : decode cX5_run 174 = .ok (.iadd, 1) := by decide +kernel
theorem dX5_run_175 : decode cX5_run 175 = .ok (.imul, 1) := by decide +kernel
theorem dX5_run_176 : decode cX5_run 176 = .ok (.isub, 1) := by decide +kernel
theorem dX5_run_177 : decode cX5_run 177 = .ok (.invokevirtual 86, 3) := by decide +kernel
theorem dX5_run_180 : decode cX5_run 180 = .ok (.istore 12, 2) := by decide +kernel
theorem dX5_run_182 : decode cX5_run 182 = .ok (.iload_n 3, 1) := by decide +kernel
theorem dX5_run_183 : decode cX5_run 183 = .ok (.aload_n 0, 1) := by decide +kernel
theorem dX5_run_184 : decode cX5_run 184 = .ok (.getfield 29, 3) := by decide +kernel
theorem dX5_run_187 : decode cX5_run 187 = .ok (.getfield 90, 3) := by decide +kernel
theorem dX5_run_190 : decode cX5_run 190 = .ok (.aload_n 0, 1) := by decide +kernel
theorem dX5_run_191 : decode cX5_run 191 = .ok (.getfield 17, 3) := by decide +kernel
theorem dX5_run_194 : decode cX5_run 194 = .ok (.iload 11, 2) := by decide +kernel
theorem dX5_run_196 : decode cX5_run 196 = .ok (.iaload, 1) := by decide +kernel
theorem dX5_run_197 : decode cX5_run 197 = .ok (.iload 7, 2) := by decide +kernel
theorem dX5_run_199 : decode cX5_run 199 = .ok (.invokevirtual 94, 3) := by decide +kernel
theorem dX5_run_202 : decode cX5_run 202 = .ok (.iconst 0, 1) := by decide +kernel
theorem dX5_run_203 : decode cX5_run 203 = .ok (.sipush 999, 3) := by decide +kernel
theorem dX5_run_206 : decode cX5_run 206 = .ok (.invokestatic 99, 3) := by decide +kernel
theorem dX5_run_209 : decode cX5_run 209 = .ok (.iadd, 1) := by decide +kernel
theorem dX5_run_210 : decode cX5_run 210 = .ok (.istore 13, 2) := by decide +kernel
theorem dX5_run_212 : decode cX5_run 212 = .ok (.aload_n 0, 1) := by decide +kernel
theorem dX5_run_213 : decode cX5_run 213 = .ok (.aload_n 0, 1) := by decide +kernel
theorem dX5_run_214 : decode cX5_run 214 = .ok (.getfield 37, 3) := by decide +kernel
theorem dX5_run_217 : decode cX5_run 217 = .ok (.aload_n 0, 1) := by decide +kernel
theorem dX5_run_218 : decode cX5_run 218 = .ok (.getfield 29, 3) := by decide +kernel
theorem dX5_run_221 : decode cX5_run 221 = .ok (.iload 9, 2) := by decide +kernel
theorem dX5_run_223 : decode cX5_run 223 = .ok (.invokevirtual 102, 3) := by decide +kernel
theorem dX5_run_226 : decode cX5_run 226 = .ok (.iadd, 1) := by decide +kernel
theorem dX5_run_227 : decode cX5_run 227 = .ok (.iload 12, 2) := by decide +kernel
theorem dX5_run_229 : decode cX5_run 229 = .ok (.iload 13, 2) := by decide +kernel
theorem dX5_run_231 : decode cX5_run 231 = .ok (.iload 4, 2) := by decide +kernel
theorem dX5_run_233 : decode cX5_run 233 = .ok (.invokevirtual 106, 3) := by decide +kernel
theorem dX5_run_236 : decode cX5_run 236 = .ok (.istore 8, 2) := by decide +kernel
theorem dX5_run_238 : decode cX5_run 238 = .ok (.aload_n 0, 1) := by decide +kernel
theorem dX5_run_239 : decode cX5_run 239 = .ok (.getfield 29, 3) := by decide +kernel
theorem dX5_run_242 : decode cX5_run 242 = .ok (.iload 9, 2) := by decide +kernel
theorem dX5_run_244 : decode cX5_run 244 = .ok (.invokevirtual 110, 3) := by decide +kernel
theorem dX5_run_247 : decode cX5_run 247 = .ok (.istore 9, 2) := by decide +kernel
theorem dX5_run_249 : decode cX5_run 249 = .ok (.iinc 11 1, 3) := by decide +kernel
theorem dX5_run_252 : decode cX5_run 252 = .ok (.goto (-104), 3) := by decide +kernel
theorem dX5_run_255 : decode cX5_run 255 = .ok (.iinc 10 1, 3) := by decide +kernel
theorem dX5_run_258 : decode cX5_run 258 = .ok (.goto (-137), 3) := by decide +kernel
theorem dX5_run_261 : decode cX5_run 261 = .ok (.aload_n 0, 1) := by decide +kernel
theorem dX5_run_262 : decode cX5_run 262 = .ok (.aload_n 0, 1) := by decide +kernel
theorem dX5_run_263 : decode cX5_run 263 = .ok (.getfield 17, 3) := by decide +kernel
theorem dX5_run_266 : decode cX5_run 266 = .ok (.iconst 0, 1) := by decide +kernel
theorem dX5_run_267 : decode cX5_run 267 = .ok (.iload 5, 2) := by decide +kernel
theorem dX5_run_269 : decode cX5_run 269 = .ok (.invokestatic 71, 3) := by decide +kernel
theorem dX5_run_272 : decode cX5_run 272 = .ok (.aload_n 0, 1) := by decide +kernel
theorem dX5_run_273 : decode cX5_run 273 = .ok (.getfield 17, 3) := by decide +kernel
theorem dX5_run_276 : decode cX5_run 276 = .ok (.iconst 0, 1) := by decide +kernel
theorem dX5_run_277 : decode cX5_run 277 = .ok (.iload 5, 2) := by decide +kernel
theorem dX5_run_279 : decode cX5_run 279 = .ok (.invokestatic 113, 3) := by decide +kernel
theorem dX5_run_282 : decode cX5_run 282 = .ok (.isub, 1) := by decide +kernel
theorem dX5_run_283 : decode cX5_run 283 = .ok (.putfield 116, 3) := by decide +kernel
theorem dX5_run_286 : decode cX5_run 286 = .ok (.iload 8, 2) := by decide +kernel
theorem dX5_run_288 : decode cX5_run 288 = .ok (.ifCond .eq 5, 3) := by decide +kernel
theorem dX5_run_291 : decode cX5_run 291 = .ok (.iconst 2, 1) := by decide +kernel
theorem dX5_run_292 : decode cX5_run 292 = .ok (.ireturn, 1) := by decide +kernel
theorem dX5_run_293 : decode cX5_run 293 = .ok (.aload_n 0, 1) := by decide +kernel
theorem dX5_run_294 : decode cX5_run 294 = .ok (.getfield 116, 3) := by decide +kernel
theorem dX5_run_297 : decode cX5_run 297 = .ok (.aload_n 0, 1) := by decide +kernel
theorem dX5_run_298 : decode cX5_run 298 = .ok (.getfield 29, 3) := by decide +kernel
theorem dX5_run_301 : decode cX5_run 301 = .ok (.getfield 56, 3) := by decide +kernel
theorem dX5_run_304 : decode cX5_run 304 = .ok (.bipush 8, 2) := by decide +kernel
theorem dX5_run_306 : decode cX5_run 306 = .ok (.iaload, 1) := by decide +kernel
theorem dX5_run_307 : decode cX5_run 307 = .ok (.if_icmp .le 7, 3) := by decide +kernel
theorem dX5_run_310 : decode cX5_run 310 = .ok (.iconst 1, 1) := by decide +kernel
theorem dX5_run_311 : decode cX5_run 311 = .ok (.goto 4, 3) := by decide +kernel
theorem dX5_run_314 : decode cX5_run 314 = .ok (.iconst 0, 1) := by decide +kernel
theorem dX5_run_315 : decode cX5_run 315 = .ok (.ireturn, 1) := by decide +kernel
set_option maxRecDepth 20000 in
theorem ggX5_run_X3_value : GoodIn wsX5_run wsX3_value := goodIn_r _ [83, 84, 85, 86, 87, 88, 82, 89, 129, 130, 131, 132, 133, 134, 135, 136, 137] rfl (by decide +kernel)
set_option maxRecDepth 20000 in
theorem gX5_run_X3_value : GoodIn wsX5_run (wsV RX5 94 RX3 yX3_value wsX3_value) := goodIn_app (goodIn_of _ (by decide +kernel)) ggX5_run_X3_value
set_option maxRecDepth 20000 in
theorem ggX5_run_X5_begin : GoodIn wsX5_run wsX5_begin := goodIn_r _ [48, 49, 50, 51, 52, 53, 54, 55, 11, 56, 57, 58, 27, 59, 60, 61, 1, 2, 62, 63, 64, 65, 66, 105, 106, 107, 108, 109, 110, 111, 112, 113, 114, 115, 116, 117, 118, 119, 120, 121, 122, 123, 124, 125, 126, 127, 128] rfl (by decide +kernel)
set_option maxRecDepth 20000 in
theorem gX5_run_X5_begin : GoodIn wsX5_run (wsV RX5 79 RX5 yX5_begin wsX5_begin) := goodIn_app (goodIn_of _ (by decide +kernel)) ggX5_run_X5_begin
set_option maxRecDepth 20000 in
theorem ggX5_run_X5_bite : GoodIn wsX5_run wsX5_bite := goodIn_r _ [70, 1, 2, 60, 62, 30, 31, 32, 33, 4, 51, 54, 71, 50, 72, 38, 39, 40, 49, 73, 74, 75, 76, 77, 78, 79, 80, 81, 82, 83, 84, 85, 86, 87, 88, 89, 90, 91, 27, 92, 105, 106, 107, 108, 109, 110, 111, 112, 113, 114, 115, 116, 117, 118, 119, 120, 121, 122, 123, 124, 125, 126, 127, 128, 129, 130, 131, 132, 133, 134, 135, 136, 137] rfl (by decide +kernel)
set_option maxRecDepth 20000 in
theorem gX5_run_X5_bite : GoodIn wsX5_run (wsV RX5 86 RX5 yX5_bite wsX5_bite) := goodIn_app (goodIn_of _ (by decide +kernel)) ggX5_run_X5_bite
set_option maxRecDepth 20000 in
theorem ggX5_run_X5_gapIn : GoodIn wsX5_run wsX5_gapIn := goodIn_r _ [37, 1, 2, 3, 38, 39, 32, 40, 15, 16, 17, 18, 19, 20, 21, 22, 23, 24, 41, 42, 27, 43, 44, 105, 106, 107, 108, 109, 110, 111, 112, 113, 114, 115, 116, 117, 118, 119, 120, 121, 122, 123, 124, 125, 126, 127, 128] rfl (by decide +kernel)
set_option maxRecDepth 20000 in
theorem gX5_run_X5_gapIn : GoodIn wsX5_run (wsV RX5 75 RX5 yX5_gapIn wsX5_gapIn) := goodIn_app (goodIn_of _ (by decide +kernel)) ggX5_run_X5_gapIn
set_option maxRecDepth 20000 in
theorem ggX5_run_X5_greatest : GoodIn wsX5_run wsX5_greatest := goodIn_r _ [28, 29, 30, 31, 32, 33] rfl (by decide +kernel)
set_option maxRecDepth 20000 in
theorem gX5_run_X5_greatest : GoodIn wsX5_run (va_wsS RX5 71 yX5_greatest wsX5_greatest) := goodIn_app (goodIn_of _ (by decide +kernel)) ggX5_run_X5_greatest
set_option maxRecDepth 20000 in
theorem ggX5_run_X5_least : GoodIn wsX5_run wsX5_least := goodIn_r _ [43, 44, 38, 39, 32, 40] rfl (by decide +kernel)
set_option maxRecDepth 20000 in
theorem gX5_run_X5_least : GoodIn wsX5_run (va_wsS RX5 113 yX5_least wsX5_least) := goodIn_app (goodIn_of _ (by decide +kernel)) ggX5_run_X5_least
set_option maxRecDepth 20000 in
theorem ggX5_run_X5_swingsTooFar : GoodIn wsX5_run wsX5_swingsTooFar := goodIn_r _ [100, 1, 2, 30, 31, 32, 33, 51, 52, 55, 53, 105, 106, 107, 108, 109, 110, 111, 112, 113, 114, 115, 116, 117, 118, 119, 120, 121, 122, 123, 124, 125, 126, 127, 128] rfl (by decide +kernel)
set_option maxRecDepth 20000 in
theorem gX5_run_X5_swingsTooFar : GoodIn wsX5_run (wsV RX5 106 RX5 yX5_swingsTooFar wsX5_swingsTooFar) := goodIn_app (goodIn_of _ (by decide +kernel)) ggX5_run_X5_swingsTooFar
set_option maxRecDepth 20000 in
theorem ggX5_run_X5_within : GoodIn wsX5_run wsX5_within := goodIn_r _ [92, 38, 39, 32, 40, 30, 31, 33] rfl (by decide +kernel)
set_option maxRecDepth 20000 in
theorem gX5_run_X5_within : GoodIn wsX5_run (va_wsS RX5 99 yX5_within wsX5_within) := goodIn_app (goodIn_of _ (by decide +kernel)) ggX5_run_X5_within
set_option maxRecDepth 20000 in
theorem ggX5_run_X6_placeOf : GoodIn wsX5_run wsX6_placeOf := goodIn_r _ [24] rfl (by decide +kernel)
set_option maxRecDepth 20000 in
theorem gX5_run_X6_placeOf : GoodIn wsX5_run (va_wsS RX5 59 yX6_placeOf wsX6_placeOf) := goodIn_app (goodIn_of _ (by decide +kernel)) ggX5_run_X6_placeOf
set_option maxRecDepth 20000 in
theorem ggX5_run_X7_hasRing : GoodIn wsX5_run wsX7_hasRing := goodIn_r _ [19, 20, 125, 126, 127, 128] rfl (by decide +kernel)
set_option maxRecDepth 20000 in
theorem gX5_run_X7_hasRing : GoodIn wsX5_run (wsV RX5 46 RX7 yX7_hasRing wsX7_hasRing) := goodIn_app (goodIn_of _ (by decide +kernel)) ggX5_run_X7_hasRing
set_option maxRecDepth 20000 in
theorem ggX5_run_X7_swayAt : GoodIn wsX5_run wsX7_swayAt := goodIn_r _ [96, 20, 125, 126, 127, 128] rfl (by decide +kernel)
set_option maxRecDepth 20000 in
theorem gX5_run_X7_swayAt : GoodIn wsX5_run (wsV RX5 102 RX7 yX7_swayAt wsX7_swayAt) := goodIn_app (goodIn_of _ (by decide +kernel)) ggX5_run_X7_swayAt
set_option maxRecDepth 20000 in
theorem ggX5_run_X7_swayBehind : GoodIn wsX5_run wsX7_swayBehind := goodIn_r _ [104, 20, 125, 126, 127, 128] rfl (by decide +kernel)
set_option maxRecDepth 20000 in
theorem gX5_run_X7_swayBehind : GoodIn wsX5_run (wsV RX5 110 RX7 yX7_swayBehind wsX7_swayBehind) := goodIn_app (goodIn_of _ (by decide +kernel)) ggX5_run_X7_swayBehind
set_option maxHeartbeats 4000000 in
set_option maxRecDepth 100000 in
theorem S_X5_run_38 (l : Launch) (D : va_G) (K : Nat → ClassId) (a : Nat → Nat) (G : gS) (p1 : Int32) (s1 : Int) (p2 : Int32) (s2 : Int) (p3 : Int32) (s3 : Int) (e1 : p1.toInt = s1) (h1 : 0 ≤ s1 ∧ s1 ≤ 30000) (e2 : p2.toInt = s2) (h2 : 0 ≤ s2 ∧ s2 ≤ 300) (e3 : p3.toInt = s3) (h3 : 0 ≤ s3 ∧ s3 ≤ 300) (fr : (0 ≤ (G 6 1).toInt ∧ (G 6 1).toInt < (G 18 1).toInt ∧ 1 ≤ (G 6 2).toInt ∧ (G 6 2).toInt ≤ 9 ∧ 1 ≤ (G 6 3).toInt ∧ (G 6 3).toInt ≤ 20 ∧ 1 ≤ (G 6 4).toInt ∧ (G 6 4).toInt ≤ 12)) (hI : xI G) (sz : Nat) : Ki l yX5_run wsX5_run 4 115 0 0 D [.ref (a 6), .ref (a 38), .int p1, .int p2, .int p3] (xW K a G) (tK K) sz (fun (r : Int32) (G' : gS) => (xI G') ∧ (gu_un xcd [608, 613, 614, 615, 616, 617, 618, 619, 620, 2100, 2400, 2700, 4400, 4500, 4600, 4700, 4800] G G') ∧ ((-4) ≤ r.toInt ∧ r.toInt ≤ 2) ∧ ((r.toInt = -4 ∨ (0 ≤ r.toInt ∧ r.toInt ≤ 2))) ∧ (((xTok G ∧ r.toInt ≠ -4) → xOut G (G 38) p1 p2 p3 G' r.toInt)) ∧ (((r.toInt = -4 ∧ psMx (psHr (G 38) (G 6 1).toInt (G 18 0).toInt) ((G 18 0).toInt - 1).toNat - (G 6 3).toInt * (G 6 4).toInt < 1) ∨ (r.toInt ≠ -4 ∧ 1 ≤ psMx (psHr (G 38) (G 6 1).toInt (G 18 0).toInt) ((G 18 0).toInt - 1).toNat - (G 6 3).toInt * (G 6 4).toInt)))) (fun (G' : gS) => (xW K a G')) (fun _ => (tK K)) := by
  unfold Ki
  refine g_ofW (cc := cX5_run) (lv := [(0, .ref (a 6)), (1, .ref (a 38)), (2, .int p1), (3, .int p2), (4, .int p3)]) (by decide) rfl (Nat.le_of_ble_eq_true rfl) rfl ?_
  intro p e s m args below meth c A Q hA hQ F hr hnm
  have hts := F.2.2.2.2.1
  have w_0 : (Cond.fieldLink RX5 40 "QuietCut$Lathe" "feed" "I").before args s = true := hts _ (List.mem_of_getElem? (i := 9) rfl)
  have i_X5 : ∀ w ∈ u_ws RX5 TX5 20, w ∈ wsX5_run := fun _ h => List.mem_cons_of_mem _ (List.mem_append_left _ (List.mem_append_left _ (List.mem_append_right _ h)))
  have w_1 : (Cond.fieldLink RX5 29 "QuietCut$Lathe" "shop" "LQuietCut$Shop;").before args s = true := hts _ (List.mem_of_getElem? (i := 1) rfl)
  have w_2 : (Cond.fieldLink RX5 90 "QuietCut$Shop" "wall" "LQuietCut$Formula;").before args s = true := hts _ (List.mem_of_getElem? (i := 12) rfl)
  have i_X7 : ∀ w ∈ u_ws RX7 TX7 4, w ∈ wsX5_run := fun _ h => List.mem_cons_of_mem _ (List.mem_append_left _ (List.mem_append_right _ h))
  have w_3 : (Cond.fieldLink RX5 17 "QuietCut$Lathe" "heights" "[I").before args s = true := hts _ (List.mem_of_getElem? (i := 4) rfl)
  have w_4 : (Cond.fieldLink RX5 37 "QuietCut$Lathe" "speed" "I").before args s = true := hts _ (List.mem_of_getElem? (i := 13) rfl)
  have w_5 : (Cond.fieldLink RX5 43 "QuietCut$Lathe" "turns" "I").before args s = true := hts _ (List.mem_of_getElem? (i := 10) rfl)
  have w_6 : (Cond.fieldLink RX5 116 "QuietCut$Lathe" "wave" "I").before args s = true := hts _ (List.mem_of_getElem? (i := 14) rfl)
  have w_7 : (Cond.fieldLink RX5 56 "QuietCut$Shop" "numbers" "[I").before args s = true := hts _ (List.mem_of_getElem? (i := 2) rfl)
  have w_8 : (Cond.fieldLink RX5 83 "QuietCut$Lathe" "begun" "I").before args s = true := hts _ (List.mem_of_getElem? (i := 11) rfl)
  have w_9 : (Cond.fieldLink RX5 33 "QuietCut$Lathe" "ring" "I").before args s = true := hts _ (List.mem_of_getElem? (i := 3) rfl)
  have w_10 : (Cond.methodLink RX5 65 arraycopyName).before args s = true := hts _ (List.mem_of_getElem? (i := 5) rfl)
  have w_11 : (Cond.native arraycopyName).before args s = true := hts _ (List.mem_of_getElem? (i := 6) rfl)
  have w_12 : (Cond.static arraycopyName).before args s = true := hts _ (List.mem_of_getElem? (i := 7) rfl)
  have w_13 : (Cond.initialized "java/lang/System").before args s = true := hts _ (List.mem_of_getElem? (i := 8) rfl)
  have b1 : (4 : Int) ≤ (G 18 0).toInt ∧ (G 18 0).toInt ≤ 16 := hI 18 0
  have b2 : (1 : Int) ≤ (G 18 1).toInt ∧ (G 18 1).toInt ≤ 6 := hI 18 1
  have b3 : (0 : Int) ≤ (G 18 8).toInt ∧ (G 18 8).toInt ≤ 9999 := hI 18 8
  have b4 : (1 : Int) ≤ (G 18 10).toInt ∧ (G 18 10).toInt ≤ 4 := hI 18 10
  have b5 : (1 : Int) ≤ (G 18 11).toInt ∧ (G 18 11).toInt ≤ 6 := hI 18 11
  have J_121 : ∀ (fuel : Nat) (x121_6 : Int32) (x121_7 : Int32) (x121_8 : Int32) (x121_9 : Int32) (x121_10 : Int32) (Gj121 : gS), (2147483647 - x121_10.toInt).toNat < fuel → ((-1000000) ≤ x121_6.toInt ∧ x121_6.toInt ≤ 5000) → ((-9998) ≤ x121_7.toInt ∧ x121_7.toInt ≤ 1000000) → (0 ≤ x121_8.toInt ∧ x121_8.toInt ≤ 1) → (0 ≤ x121_9.toInt ∧ x121_9.toInt ≤ 5) → (0 ≤ x121_10.toInt ∧ x121_10.toInt ≤ 12) → (xI Gj121) → (gu_un xcd [608, 613, 614, 615, 617, 618, 619, 620, 2100, 2400, 2700, 4400, 4500, 4600, 4700, 4800] G Gj121) → (∃ n9 : Nat, (n9 : Int) ≤ x121_10.toInt * (G 18 0).toInt ∧ (x121_8.toInt = 0 → (n9 : Int) = x121_10.toInt * (G 18 0).toInt ∧ x121_9.toInt = (n9 : Int) % (G 18 11).toInt) ∧ (xTok G → xRl G (G 38) p1 x121_6 x121_7 p2 p3 Gj121 n9 x121_8.toInt ∧ xBg G (G 38) p1 x121_6 x121_7 p2 p3 Gj121 n9)) → (x121_6.toInt = psMx (psHr (G 38) (G 6 1).toInt (G 18 0).toInt) ((G 18 0).toInt - 1).toNat ∧ x121_7.toInt = psGa (G 38) (G 6 1).toInt (G 18 1).toInt (G 18 0).toInt x121_6.toInt) → (xMt G Gj121) → ((x121_8.toInt ≠ 0 ∨ (-9999 ≤ (Gj121 6 13).toInt ∧ (Gj121 6 13).toInt ≤ 9999 ∧ -19998 ≤ (Gj121 6 14).toInt ∧ (Gj121 6 14).toInt ≤ 19998))) → (((Gj121 6 19).toInt = x121_10.toInt)) → ((x121_10.toInt ≤ (G 6 4).toInt)) → ((x121_6.toInt - (G 6 3).toInt * (G 6 4).toInt ≥ 1)) → gG p l e (gR 4 0 0 115) s m args below meth c D A 14 Q 0 0 (xW K a Gj121) (tK K) [(0, .ref (a 6)), (3, .int p2), (4, .int p3), (5, .int (G 18 0)), (6, .int x121_6), (7, .int x121_7), (8, .int x121_8), (9, .int x121_9), (10, .int x121_10)] 121 [] := by
    intro fuel
    induction fuel with
    | zero => intro x121_6 x121_7 x121_8 x121_9 x121_10 Gj121 hm; exact absurd hm (Nat.not_lt_zero _)
    | succ fuel_121 ih_121 =>
      intro x121_6 x121_7 x121_8 x121_9 x121_10 Gj121 hm_121 h121_6 h121_7 h121_8 h121_9 h121_10 jI121 jU121 r1 lv mt_121 xb1 bg1 tl1 lc1
      have J_148 : ∀ (fuel : Nat) (x148_8 : Int32) (x148_9 : Int32) (x148_11 : Int32) (Gj148 : gS), (2147483647 - x148_11.toInt).toNat < fuel → (0 ≤ x148_8.toInt ∧ x148_8.toInt ≤ 1) → (0 ≤ x148_9.toInt ∧ x148_9.toInt ≤ 5) → (0 ≤ x121_10.toInt ∧ x121_10.toInt ≤ 11) → (0 ≤ x148_11.toInt ∧ x148_11.toInt ≤ 16) → (xI Gj148) → (gu_un xcd [613, 614, 615, 617, 618, 619, 620, 2100, 2400, 2700, 4500, 4600, 4700, 4800] Gj121 Gj148) → ((xTok G → xRl G (G 38) p1 x121_6 x121_7 p2 p3 Gj148 (x121_10.toInt * (G 18 0).toInt + x148_11.toInt).toNat x148_8.toInt ∧ (0 < x148_11.toInt → xBg G (G 38) p1 x121_6 x121_7 p2 p3 Gj148 (x121_10.toInt * (G 18 0).toInt + x148_11.toInt).toNat))) → (x148_9.toInt = (x121_10.toInt * (G 18 0).toInt + x148_11.toInt) % (G 18 11).toInt) → (xMt G Gj148) → ((x148_8.toInt ≠ 0 ∨ (-9999 ≤ (Gj148 6 13).toInt ∧ (Gj148 6 13).toInt ≤ 9999 ∧ -19998 ≤ (Gj148 6 14).toInt ∧ (Gj148 6 14).toInt ≤ 19998))) → (((Gj148 6 19).toInt = x121_10.toInt + 1)) → ((x121_10.toInt + 1 ≤ (G 6 4).toInt)) → ((x148_8.toInt = 0 ∨ 0 < x148_11.toInt)) → ((x148_11.toInt ≤ (G 18 0).toInt)) → gG p l e (gR 4 0 0 115) s m args below meth c D A 14 Q 0 0 (xW K a Gj148) (tK K) [(0, .ref (a 6)), (3, .int p2), (4, .int p3), (5, .int (G 18 0)), (6, .int x121_6), (7, .int x121_7), (8, .int x148_8), (9, .int x148_9), (10, .int x121_10), (11, .int x148_11)] 148 [] := by
        intro fuel
        induction fuel with
        | zero => intro x148_8 x148_9 x148_11 Gj148 hm; exact absurd hm (Nat.not_lt_zero _)
        | succ fuel_148 ih_148 =>
          intro x148_8 x148_9 x148_11 Gj148 hm_148 h148_8 h148_9 k148_10 h148_11 jI148 jU148 r2 r3 mt xb2 bg2 tl2 sh2 il2
          refine g_iload F 9 dX5_run_148 rfl ?_
          refine g_iload F 3 dX5_run_150 rfl ?_
          refine v_icmp_ge F 255 dX5_run_152 (by decide) x148_11.toInt (G 18 0).toInt rfl rfl (fun c6 => ?_) (fun c6 => ?_)
          · refine u_iinc F (fun v_ => [(10, .int v_), (0, .ref (a 6)), (3, .int p2), (4, .int p3), (5, .int (G 18 0)), (6, .int x121_6), (7, .int x121_7), (8, .int x148_8), (9, .int x148_9), (11, .int x148_11)]) dX5_run_255 (j := 8) rfl x121_10.toInt 1 rfl rfl (by omega) (by omega) (by decide) (fun _ => rfl) (fun y7 ey7 => ?_)
            refine g_goto F 121 dX5_run_258 (by decide) ?_
            refine g_locals [(0, .ref (a 6)), (3, .int p2), (4, .int p3), (5, .int (G 18 0)), (6, .int x121_6), (7, .int x121_7), (8, .int x148_8), (9, .int x148_9), (10, .int y7)] [1, 2, 3, 4, 5, 6, 7, 8, 0] rfl ?_
            exact ih_121 x121_6 x121_7 x148_8 x148_9 y7 Gj148 (by omega) (by have h9 := ti_rng x121_6; omega) (by have h9 := ti_rng x121_7; omega) (by have h9 := ti_rng x148_8; omega) (by have h9 := ti_rng x148_9; omega) (by have h9 := ti_rng y7; omega) jI148 (gu_un.tr (gu_un.tr gu_un.rf (gu_un.su jU121 rfl)) (gu_un.su jU148 rfl)) (⟨(x121_10.toInt * (G 18 0).toInt + x148_11.toInt).toNat, by rw [show y7.toInt = x121_10.toInt + 1 by omega, Int.add_mul, Int.one_mul]; omega, fun h0 => ⟨by rw [show y7.toInt = x121_10.toInt + 1 by omega, Int.add_mul, Int.one_mul]; omega, by rw [Int.toNat_of_nonneg (by omega)]; exact r3⟩, fun hz => ⟨(r2 hz).1, (r2 hz).2 (by omega)⟩⟩) (lv) (mt) (by (first | omega | (simp only [Int32.reduceToInt, true_and, and_true, ne_eq, not_true_eq_false, false_and, or_false, false_or, true_or, or_true, false_implies] <;> omega))) (by (first | omega | (simp only [Int32.reduceToInt, true_and, and_true, ne_eq, not_true_eq_false, false_and, or_false, false_or, true_or, or_true, false_implies] <;> omega))) (by have e9_6_4 : Gj148 6 4 = (G 6 4) := (jU148 6 4 (by decide)).trans (jU121 6 4 (by decide)); (try simp only [e9_6_4, true_and, and_true]) <;> (first | omega | (simp only [Int32.reduceToInt, true_and, and_true, ne_eq, not_true_eq_false, false_and, or_false, false_or, true_or, or_true, false_implies] <;> omega))) (by omega)
          · refine g_iload F 6 dX5_run_155 rfl ?_
            refine v_if_ne F 255 dX5_run_157 (by decide) x148_8.toInt rfl (fun c8 => ?_) (fun c8 => ?_)
            · refine u_iinc F (fun v_ => [(10, .int v_), (0, .ref (a 6)), (3, .int p2), (4, .int p3), (5, .int (G 18 0)), (6, .int x121_6), (7, .int x121_7), (8, .int x148_8), (9, .int x148_9), (11, .int x148_11)]) dX5_run_255 (j := 8) rfl x121_10.toInt 1 rfl rfl (by omega) (by omega) (by decide) (fun _ => rfl) (fun y9 ey9 => ?_)
              refine g_goto F 121 dX5_run_258 (by decide) ?_
              refine g_locals [(0, .ref (a 6)), (3, .int p2), (4, .int p3), (5, .int (G 18 0)), (6, .int x121_6), (7, .int x121_7), (8, .int x148_8), (9, .int x148_9), (10, .int y9)] [1, 2, 3, 4, 5, 6, 7, 8, 0] rfl ?_
              exact ih_121 x121_6 x121_7 x148_8 x148_9 y9 Gj148 (by omega) (by have h9 := ti_rng x121_6; omega) (by have h9 := ti_rng x121_7; omega) (by have h9 := ti_rng x148_8; omega) (by have h9 := ti_rng x148_9; omega) (by have h9 := ti_rng y9; omega) jI148 (gu_un.tr (gu_un.tr gu_un.rf (gu_un.su jU121 rfl)) (gu_un.su jU148 rfl)) (⟨(x121_10.toInt * (G 18 0).toInt + x148_11.toInt).toNat, by rw [show y9.toInt = x121_10.toInt + 1 by omega, Int.add_mul, Int.one_mul]; omega, fun h0 => ⟨by rw [show y9.toInt = x121_10.toInt + 1 by omega, Int.add_mul, Int.one_mul]; omega, by rw [Int.toNat_of_nonneg (by omega)]; exact r3⟩, fun hz => ⟨(r2 hz).1, (r2 hz).2 (by omega)⟩⟩) (lv) (mt) (by (first | omega | (simp only [Int32.reduceToInt, true_and, and_true, ne_eq, not_true_eq_false, false_and, or_false, false_or, true_or, or_true, false_implies] <;> omega))) (by (first | omega | (simp only [Int32.reduceToInt, true_and, and_true, ne_eq, not_true_eq_false, false_and, or_false, false_or, true_or, or_true, false_implies] <;> omega))) (by have e9_6_4 : Gj148 6 4 = (G 6 4) := (jU148 6 4 (by decide)).trans (jU121 6 4 (by decide)); (try simp only [e9_6_4, true_and, and_true]) <;> (first | omega | (simp only [Int32.reduceToInt, true_and, and_true, ne_eq, not_true_eq_false, false_and, or_false, false_or, true_or, or_true, false_implies] <;> omega))) (by omega)
            · have ts0 : 0 ≤ x121_10.toInt * (G 18 0).toInt := Int.mul_nonneg (by omega) (by omega)
              have m1 : (x121_10 + 1).toInt = x121_10.toInt + 1 := ti_add rfl rfl (by omega) (by omega)
              refine g_aload_n F 0 dX5_run_160 rfl rfl ?_
              refine g_iload F 9 dX5_run_161 rfl ?_
              refine g_iload F 8 dX5_run_163 rfl ?_
              refine g_iload F 4 dX5_run_165 rfl ?_
              refine g_aload_n F 0 dX5_run_167 rfl rfl ?_
              refine xg_6_3 F i_X5 w_0 dX5_run_168 (G 6 3) ((jU148 6 3 (by decide)).trans (jU121 6 3 (by decide))) ?_
              refine g_iload F 8 dX5_run_171 rfl ?_
              refine g_iconst F 1 dX5_run_173 (by decide) ?_
              refine g_iadd F dX5_run_174 ?_
              refine g_imul F dX5_run_175 ?_
              refine g_isub F dX5_run_176 ?_
              have m2 : (G 6 3).toInt * (x121_10.toInt + 1) ≤ (G 6 3).toInt * (G 6 4).toInt := Int.mul_le_mul_of_nonneg_left (by omega) (by omega)
              have m3 := Int.mul_nonneg (show (0 : Int) ≤ (G 6 3).toInt by omega) (show (0 : Int) ≤ x121_10.toInt + 1 by omega)
              have m4 : ((G 6 3) * (x121_10 + 1)).toInt = (G 6 3).toInt * (x121_10.toInt + 1) := ti_mul rfl m1 (by omega) (by omega)
              have m5 : ((x121_6 - ((G 6 3) * (x121_10 + 1))) : Int32).toInt = x121_6.toInt - (G 6 3).toInt * (x121_10.toInt + 1) := ti_sub rfl m4 (by omega) (by omega)
              refine u_callVi (k := 0) (n := 0) (b := a 6) (As := [.int x148_11, .int x121_10, .int (x121_6 - ((G 6 3) * (x121_10 + 1)))]) (st := []) F (fun sz => S_X5_bite l D K a Gj148 x148_11 x148_11.toInt x121_10 x121_10.toInt (x121_6 - ((G 6 3) * (x121_10 + 1))) ((x121_6 - ((G 6 3) * (x121_10 + 1))) : Int32).toInt rfl (by omega) rfl rfl (by omega) (by (first | omega | (simp only [Int32.reduceToInt, true_and, and_true, ne_eq, not_true_eq_false, false_and, or_false, false_or, true_or, or_true, false_implies] <;> omega))) jI148 sz) (cwV 3 hts gX5_run_X5_bite rfl rfl rfl (by decide +kernel) ⟨Nat.le_of_ble_eq_true rfl, Nat.le_of_ble_eq_true rfl⟩) rfl 6 xc_6 rfl (Nat.le_of_ble_eq_true rfl) ⟨Nat.zero_le _, Nat.zero_le _⟩ dX5_run_177 (fun r10 G12 hw11 => ?_)
              have hI13 : xI G12 := hw11.1
              have hU14 : gu_un xcd [613, 618, 2100, 2700, 4500, 4600, 4700, 4800] Gj148 G12 := hw11.2.1
              have hp15 := hw11.2.2
              have b16 : (0 : Int) ≤ (Gj121 6 7).toInt ∧ (Gj121 6 7).toInt ≤ 4 := jI121 6 7
              have q17 : (∀ (Q S : gS) (C : Nat → List Int), xBq Gj148 Q C x121_10 (x121_6 - ((G 6 3) * (x121_10 + 1))) → (pR (G 18 0).toInt S (Gj148 45) (Gj148 6 12) (Gj148 6 13) (Gj148 6 14) (Gj148 6 17) (Gj148 6 18) (Gj148 6 16) 0 ∧ pL (G 18 0).toInt S (Gj148 46) (Gj148 47) (Gj148 48)) → (pR (G 18 0).toInt (psT Q C x148_11.toInt x121_10 ((Gj121 6 7).toInt).toNat S) (G12 45) (G12 6 12) (Gj148 6 13) (Gj148 6 14) (G12 6 17) (Gj148 6 18) (Gj148 6 16) (Int32.ofInt r10.toInt) ∧ pL (G 18 0).toInt (psT Q C x148_11.toInt x121_10 ((Gj121 6 7).toInt).toNat S) (G12 46) (G12 47) (G12 48))) := by have h9 := hp15.2.1; (try simp only [(show Gj148 18 0 = (G 18 0) from (jU148 18 0 (by decide)).trans (jU121 18 0 (by decide))), (show Gj148 18 0 = (G 18 0) from (jU148 18 0 (by decide)).trans (jU121 18 0 (by decide))), (show Gj148 18 0 = (G 18 0) from (jU148 18 0 (by decide)).trans (jU121 18 0 (by decide))), (show Gj148 6 7 = (Gj121 6 7) from jU148 6 7 (by decide)), (show Gj148 18 0 = (G 18 0) from (jU148 18 0 (by decide)).trans (jU121 18 0 (by decide))), (show Gj148 6 7 = (Gj121 6 7) from jU148 6 7 (by decide))] at h9); first | exact h9 | omega
              have q18 : (-39996 ≤ r10.toInt ∧ r10.toInt ≤ 39996) := hp15.2.2
              have rg19 := hp15.1
              clear hp15 hw11
              refine g_istore F [(12, .int r10), (0, .ref (a 6)), (3, .int p2), (4, .int p3), (5, .int (G 18 0)), (6, .int x121_6), (7, .int x121_7), (8, .int x148_8), (9, .int x148_9), (10, .int x121_10), (11, .int x148_11)] dX5_run_180 (by decide) rfl ?_
              refine g_iload_n F 2 dX5_run_182 rfl rfl ?_
              refine g_aload_n F 1 dX5_run_183 rfl rfl ?_
              refine xg_6_0 F i_X5 w_1 dX5_run_184 ?_
              refine xg_2_2 F i_X7 w_2 dX5_run_187 ?_
              refine g_aload_n F 1 dX5_run_190 rfl rfl ?_
              refine xg_6_8 F i_X5 w_3 dX5_run_191 ?_
              refine g_iload F 10 dX5_run_194 rfl ?_
              refine u1_iald F 45 0 xc_45 rfl x148_11.toInt rfl (by omega) (by omega) dX5_run_196 ((G12 45) (x148_11.toInt).toNat) (rfl) ?_
              have b20 : ((-9998) : Int) ≤ ((G12 45) (x148_11.toInt).toNat).toInt ∧ ((G12 45) (x148_11.toInt).toNat).toInt ≤ 5000 := hI13 45 _
              refine g_iload F 6 dX5_run_197 rfl ?_
              refine u_callVi (k := 0) (n := 0) (b := a 12) (As := [.int ((G12 45) (x148_11.toInt).toNat), .int x121_7]) (st := [.int p2]) F (fun sz => S_X3_value_12 l D K a G12 ((G12 45) (x148_11.toInt).toNat) ((G12 45) (x148_11.toInt).toNat).toInt x121_7 x121_7.toInt rfl rfl hI13 sz) (cwV 2 hts gX5_run_X3_value rfl rfl rfl (by decide +kernel) ⟨Nat.le_of_ble_eq_true rfl, Nat.le_of_ble_eq_true rfl⟩) rfl 12 xc_12 rfl (Nat.le_of_ble_eq_true rfl) ⟨Nat.zero_le _, Nat.zero_le _⟩ dX5_run_199 (fun r21 G23 hw22 => ?_)
              have hI24 : xI G23 := hw22.1
              have hU25 : gu_un xcd [2400] G12 G23 := hw22.2.1
              have hp26 := hw22.2.2
              have b27 : (0 : Int) ≤ (G 12 1).toInt ∧ (G 12 1).toInt ≤ 80 := hI 12 1
              have q28 : (gcOK (tkr (G 23) ((G 12 1).toInt).toNat) → r21.toInt = (eV ((G12 45) (x148_11.toInt).toNat) x121_7 (tkr (G 23) ((G 12 1).toInt).toNat)).toInt) := by have h9 := hp26; (try simp only [(show G12 12 1 = (G 12 1) from (hU14 12 1 (by decide)).trans ((jU148 12 1 (by decide)).trans (jU121 12 1 (by decide)))), (show G12 12 1 = (G 12 1) from (hU14 12 1 (by decide)).trans ((jU148 12 1 (by decide)).trans (jU121 12 1 (by decide)))), (show G12 23 = (G 23) from (show G12 23 = Gj148 23 from funext fun k_ => hU14 23 k_ (show (2300 : Nat) ∉ ([613, 618, 2100, 2700, 4500, 4600, 4700, 4800] : List Nat) by decide)).trans ((show Gj148 23 = Gj121 23 from funext fun k_ => jU148 23 k_ (show (2300 : Nat) ∉ ([613, 614, 615, 617, 618, 619, 620, 2100, 2400, 2700, 4500, 4600, 4700, 4800] : List Nat) by decide)).trans ((show Gj121 23 = G 23 from funext fun k_ => jU121 23 k_ (show (2300 : Nat) ∉ ([608, 613, 614, 615, 617, 618, 619, 620, 2100, 2400, 2700, 4400, 4500, 4600, 4700, 4800] : List Nat) by decide))))), (show G12 23 = (G 23) from (show G12 23 = Gj148 23 from funext fun k_ => hU14 23 k_ (show (2300 : Nat) ∉ ([613, 618, 2100, 2700, 4500, 4600, 4700, 4800] : List Nat) by decide)).trans ((show Gj148 23 = Gj121 23 from funext fun k_ => jU148 23 k_ (show (2300 : Nat) ∉ ([613, 614, 615, 617, 618, 619, 620, 2100, 2400, 2700, 4500, 4600, 4700, 4800] : List Nat) by decide)).trans ((show Gj121 23 = G 23 from funext fun k_ => jU121 23 k_ (show (2300 : Nat) ∉ ([608, 613, 614, 615, 617, 618, 619, 620, 2100, 2400, 2700, 4400, 4500, 4600, 4700, 4800] : List Nat) by decide)))))] at h9); first | exact h9 | omega
              clear hp26 hw22
              refine g_iconst F 0 dX5_run_202 (by decide) ?_
              refine g_sipush F 999 dX5_run_203 (by decide) ?_
              refine u_call0 (k := 0) (n := 0) (As := [.int r21, .int 0, .int 999]) (st := [.int p2]) F (fun sz => S_X5_within l D r21 r21.toInt 0 0 999 999 rfl rfl rfl sz) (va_cwS 3 hts gX5_run_X5_within rfl rfl rfl (by decide +kernel) ⟨Nat.le_of_ble_eq_true rfl, Nat.le_of_ble_eq_true rfl⟩) rfl (Nat.le_of_ble_eq_true rfl) ⟨Nat.zero_le _, Nat.zero_le _⟩ dX5_run_206 (fun r29 _ hw30 => ?_)
              have q32 : (r29.toInt = max (0 : Int) (min (999 : Int) r21.toInt)) := hw30
              clear hw30
              refine g_iadd F dX5_run_209 ?_
              have hs9 : ((p2 + r29) : Int32).toInt = _ + _ := ti_add rfl rfl (by omega) (by omega)
              refine g_istore F [(13, .int (p2 + r29)), (12, .int r10), (0, .ref (a 6)), (3, .int p2), (4, .int p3), (5, .int (G 18 0)), (6, .int x121_6), (7, .int x121_7), (8, .int x148_8), (9, .int x148_9), (10, .int x121_10), (11, .int x148_11)] dX5_run_210 (by decide) rfl ?_
              refine g_aload_n F 2 dX5_run_212 rfl rfl ?_
              refine g_aload_n F 2 dX5_run_213 rfl rfl ?_
              refine xg_6_2 F i_X5 w_4 dX5_run_214 (G 6 2) ((hU25 6 2 (by decide)).trans ((hU14 6 2 (by decide)).trans ((jU148 6 2 (by decide)).trans (jU121 6 2 (by decide))))) ?_
              refine g_aload_n F 2 dX5_run_217 rfl rfl ?_
              refine xg_6_0 F i_X5 w_1 dX5_run_218 ?_
              refine g_iload F 9 dX5_run_221 rfl ?_
              refine u_callVi (k := 0) (n := 0) (b := a 2) (As := [.int x148_9]) (st := [.int (G 6 2), .ref (a 6)]) F (fun sz => S_X7_swayAt_2 l D K a G23 x148_9 x148_9.toInt rfl (by omega) hI24 sz) (cwV 1 hts gX5_run_X7_swayAt rfl rfl rfl (by decide +kernel) ⟨Nat.le_of_ble_eq_true rfl, Nat.le_of_ble_eq_true rfl⟩) rfl 2 xc_2 rfl (Nat.le_of_ble_eq_true rfl) ⟨Nat.zero_le _, Nat.zero_le _⟩ dX5_run_223 (fun r33 _ hw34 => ?_)
              have q36 : (r33.toInt = ((G 18) (30 + (x148_9.toInt).toNat)).toInt) := by have h9 := hw34.2; (try simp only [(show G23 18 = (G 18) from (show G23 18 = G12 18 from funext fun k_ => hU25 18 k_ (show (1800 : Nat) ∉ ([2400] : List Nat) by decide)).trans ((show G12 18 = Gj148 18 from funext fun k_ => hU14 18 k_ (show (1800 : Nat) ∉ ([613, 618, 2100, 2700, 4500, 4600, 4700, 4800] : List Nat) by decide)).trans ((show Gj148 18 = Gj121 18 from funext fun k_ => jU148 18 k_ (show (1800 : Nat) ∉ ([613, 614, 615, 617, 618, 619, 620, 2100, 2400, 2700, 4500, 4600, 4700, 4800] : List Nat) by decide)).trans ((show Gj121 18 = G 18 from funext fun k_ => jU121 18 k_ (show (1800 : Nat) ∉ ([608, 613, 614, 615, 617, 618, 619, 620, 2100, 2400, 2700, 4400, 4500, 4600, 4700, 4800] : List Nat) by decide))))))] at h9); first | exact h9 | omega
              have rg37 := hw34.1
              clear hw34
              refine g_iadd F dX5_run_226 ?_
              have ss9 : (((G 6 2) + r33) : Int32).toInt = _ + _ := ti_add rfl rfl (by omega) (by omega)
              refine g_iload F 1 dX5_run_227 rfl ?_
              refine g_iload F 0 dX5_run_229 rfl ?_
              refine g_iload F 4 dX5_run_231 rfl ?_
              refine u_callVi (k := 0) (n := 0) (b := a 6) (As := [.int ((G 6 2) + r33), .int r10, .int (p2 + r29), .int p3]) (st := []) F (fun sz => S_X5_swingsTooFar l D K a G23 ((G 6 2) + r33) (((G 6 2) + r33) : Int32).toInt r10 r10.toInt (p2 + r29) ((p2 + r29) : Int32).toInt p3 s3 rfl rfl (by omega) rfl (by omega) e3 (by omega) (by have e9_6_13 : G23 6 13 = (Gj148 6 13) := (hU25 6 13 (by decide)).trans (hU14 6 13 (by decide)); have e9_6_14 : G23 6 14 = (Gj148 6 14) := (hU25 6 14 (by decide)).trans (hU14 6 14 (by decide)); (try simp only [e9_6_13, e9_6_14, true_and, and_true]) <;> (first | omega | (simp only [Int32.reduceToInt, true_and, and_true, ne_eq, not_true_eq_false, false_and, or_false, false_or, true_or, or_true, false_implies] <;> omega))) hI24 sz) (cwV 4 hts gX5_run_X5_swingsTooFar rfl rfl rfl (by decide +kernel) ⟨Nat.le_of_ble_eq_true rfl, Nat.le_of_ble_eq_true rfl⟩) rfl 6 xc_6 rfl (Nat.le_of_ble_eq_true rfl) ⟨Nat.zero_le _, Nat.zero_le _⟩ dX5_run_233 (fun r38 G40 hw39 => ?_)
              have hI41 : xI G40 := hw39.1
              have hU42 : gu_un xcd [614, 615, 617, 619] G23 G40 := hw39.2.1
              have hp43 := hw39.2.2
              have q44 : (∀ Q S : gS, (Q 0 2 = (G 18) 2 ∧ Q 0 7 = (G 18) 7 ∧ Q 3 5 = p3) → swR S (G23 6 13) (G23 6 14) (G23 6 18) (G23 6 16) 0 → swR (psJ Q r10 (p2 + r29) ((((G 6 2) + r33) : Int32).toInt).toNat S) (G40 6 13) (G40 6 14) (G40 6 18) (G40 6 16) (Int32.ofInt r38.toInt)) := by have h9 := hp43.2.1; (try simp only [(show G23 18 = (G 18) from (show G23 18 = G12 18 from funext fun k_ => hU25 18 k_ (show (1800 : Nat) ∉ ([2400] : List Nat) by decide)).trans ((show G12 18 = Gj148 18 from funext fun k_ => hU14 18 k_ (show (1800 : Nat) ∉ ([613, 618, 2100, 2700, 4500, 4600, 4700, 4800] : List Nat) by decide)).trans ((show Gj148 18 = Gj121 18 from funext fun k_ => jU148 18 k_ (show (1800 : Nat) ∉ ([613, 614, 615, 617, 618, 619, 620, 2100, 2400, 2700, 4500, 4600, 4700, 4800] : List Nat) by decide)).trans ((show Gj121 18 = G 18 from funext fun k_ => jU121 18 k_ (show (1800 : Nat) ∉ ([608, 613, 614, 615, 617, 618, 619, 620, 2100, 2400, 2700, 4400, 4500, 4600, 4700, 4800] : List Nat) by decide)))))), (show G23 18 = (G 18) from (show G23 18 = G12 18 from funext fun k_ => hU25 18 k_ (show (1800 : Nat) ∉ ([2400] : List Nat) by decide)).trans ((show G12 18 = Gj148 18 from funext fun k_ => hU14 18 k_ (show (1800 : Nat) ∉ ([613, 618, 2100, 2700, 4500, 4600, 4700, 4800] : List Nat) by decide)).trans ((show Gj148 18 = Gj121 18 from funext fun k_ => jU148 18 k_ (show (1800 : Nat) ∉ ([613, 614, 615, 617, 618, 619, 620, 2100, 2400, 2700, 4500, 4600, 4700, 4800] : List Nat) by decide)).trans ((show Gj121 18 = G 18 from funext fun k_ => jU121 18 k_ (show (1800 : Nat) ∉ ([608, 613, 614, 615, 617, 618, 619, 620, 2100, 2400, 2700, 4400, 4500, 4600, 4700, 4800] : List Nat) by decide))))))] at h9); first | exact h9 | omega
              have q45 : (r38.toInt ≠ 0 ∨ (-9999 ≤ (G40 6 13).toInt ∧ (G40 6 13).toInt ≤ 9999 ∧ -19998 ≤ (G40 6 14).toInt ∧ (G40 6 14).toInt ≤ 19998)) := hp43.2.2
              have rg46 := hp43.1
              clear hp43 hw39
              refine g_istore F [(8, .int r38), (13, .int (p2 + r29)), (12, .int r10), (0, .ref (a 6)), (3, .int p2), (4, .int p3), (5, .int (G 18 0)), (6, .int x121_6), (7, .int x121_7), (9, .int x148_9), (10, .int x121_10), (11, .int x148_11)] dX5_run_236 (by decide) rfl ?_
              refine g_aload_n F 3 dX5_run_238 rfl rfl ?_
              refine xg_6_0 F i_X5 w_1 dX5_run_239 ?_
              refine g_iload F 9 dX5_run_242 rfl ?_
              refine u_callVi (k := 0) (n := 0) (b := a 2) (As := [.int x148_9]) (st := []) F (fun sz => S_X7_swayBehind_2 l D K a G40 x148_9 x148_9.toInt rfl (by omega) hI41 sz) (cwV 1 hts gX5_run_X7_swayBehind rfl rfl rfl (by decide +kernel) ⟨Nat.le_of_ble_eq_true rfl, Nat.le_of_ble_eq_true rfl⟩) rfl 2 xc_2 rfl (Nat.le_of_ble_eq_true rfl) ⟨Nat.zero_le _, Nat.zero_le _⟩ dX5_run_244 (fun r47 _ hw48 => ?_)
              have q50 : (r47.toInt = if x148_9.toInt + 1 < (G 18 11).toInt then x148_9.toInt + 1 else 0) := by have h9 := hw48.2; (try simp only [(show G40 18 11 = (G 18 11) from (hU42 18 11 (by decide)).trans ((hU25 18 11 (by decide)).trans ((hU14 18 11 (by decide)).trans ((jU148 18 11 (by decide)).trans (jU121 18 11 (by decide))))))] at h9); first | exact h9 | omega
              have rg51 := hw48.1
              clear hw48
              refine g_istore F [(9, .int r47), (8, .int r38), (13, .int (p2 + r29)), (12, .int r10), (0, .ref (a 6)), (3, .int p2), (4, .int p3), (5, .int (G 18 0)), (6, .int x121_6), (7, .int x121_7), (10, .int x121_10), (11, .int x148_11)] dX5_run_247 (by decide) rfl ?_
              refine u_iinc F (fun v_ => [(11, .int v_), (9, .int r47), (8, .int r38), (13, .int (p2 + r29)), (12, .int r10), (0, .ref (a 6)), (3, .int p2), (4, .int p3), (5, .int (G 18 0)), (6, .int x121_6), (7, .int x121_7), (10, .int x121_10)]) dX5_run_249 (j := 11) rfl x148_11.toInt 1 rfl rfl (by omega) (by omega) (by decide) (fun _ => rfl) (fun y52 ey52 => ?_)
              refine g_goto F 148 dX5_run_252 (by decide) ?_
              refine g_locals [(0, .ref (a 6)), (3, .int p2), (4, .int p3), (5, .int (G 18 0)), (6, .int x121_6), (7, .int x121_7), (8, .int r38), (9, .int r47), (10, .int x121_10), (11, .int y52)] [5, 6, 7, 8, 9, 10, 2, 1, 11, 0] rfl ?_
              exact ih_148 r38 r47 y52 G40 (by omega) (by have h9 := ti_rng r38; omega) (by have h9 := ti_rng r47; omega) (by have h9 := ti_rng x121_10; omega) (by have h9 := ti_rng y52; omega) hI41 (gu_un.tr (gu_un.tr (gu_un.tr (gu_un.tr gu_un.rf (gu_un.su jU148 rfl)) (gu_un.su hU14 rfl)) (gu_un.su hU25 rfl)) (gu_un.su hU42 rfl)) (fun hz => by have h9 := xRl.go (n := (x121_10.toInt * (G 18 0).toInt + x148_11.toInt).toNat) (y := (x121_10.toInt * (G 18 0).toInt + y52.toInt).toNat) (T := x121_10.toInt) (i := x148_11.toInt) (s := (G 18 0).toInt) (t := x121_10) (fo := r10) (ho := (p2 + r29)) (m := ((Gj121 6 7).toInt).toNat) (rd := x148_9.toInt) (k := ((((G 6 2) + r33) : Int32).toInt).toNat) (sh := r38) ((r2 hz).1.sh (by omega)) (by omega) rfl (by omega) (by omega) rfl (fun Q C hq => xBq_of hq (show Gj148 18 = (G 18) from ((show Gj148 18 = Gj121 18 from funext fun k_ => jU148 18 k_ (by simp [xcd])).trans (show Gj121 18 = (G 18) from ((show Gj121 18 = G 18 from funext fun k_ => jU121 18 k_ (by simp [xcd])).trans (show G 18 = (G 18) from rfl))))) (show Gj148 20 = (G 20) from ((show Gj148 20 = Gj121 20 from funext fun k_ => jU148 20 k_ (by simp [xcd])).trans (show Gj121 20 = (G 20) from ((show Gj121 20 = G 20 from funext fun k_ => jU121 20 k_ (by simp [xcd])).trans (show G 20 = (G 20) from rfl))))) (show Gj148 26 = (G 26) from ((show Gj148 26 = Gj121 26 from funext fun k_ => jU148 26 k_ (by simp [xcd])).trans (show Gj121 26 = (G 26) from ((show Gj121 26 = G 26 from funext fun k_ => jU121 26 k_ (by simp [xcd])).trans (show G 26 = (G 26) from rfl))))) (show Gj148 11 1 = (G 11 1) from (jU148 11 1 (by decide)).trans (jU121 11 1 (by decide))) (show Gj148 13 1 = (G 13 1) from (jU148 13 1 (by decide)).trans (jU121 13 1 (by decide))) (mt hz) rfl) (by have h6 := (mt hz).1; rw [show Gj148 6 7 = (Gj121 6 7) from jU148 6 7 (by decide)] at h6; rw [h6]) (Int32.toInt_inj.mp (by omega)) (by have h := q17; simp only [Int32.ofInt_toInt] at h; exact h) (fun gc => congrArg (p2 + ·) (psC_of q32 (q28 gc))) (by rw [Int.toNat_of_nonneg (by omega)]; exact r3) (by omega) (by rw [← Int32.toInt_inj.mp q36]) (by have h := q44; rw [Int32.ofInt_toInt, show G23 6 13 = Gj148 6 13 from (show G23 6 13 = Gj148 6 13 from (show gu_un xcd [613, 618, 2100, 2400, 2700, 4500, 4600, 4700, 4800] Gj148 G23 from (gu_un.tr (gu_un.tr gu_un.rf (gu_un.su hU14 rfl)) (gu_un.su hU25 rfl))) 6 13 (by decide)), show G23 6 14 = Gj148 6 14 from (show G23 6 14 = Gj148 6 14 from (show gu_un xcd [613, 618, 2100, 2400, 2700, 4500, 4600, 4700, 4800] Gj148 G23 from (gu_un.tr (gu_un.tr gu_un.rf (gu_un.su hU14 rfl)) (gu_un.su hU25 rfl))) 6 14 (by decide)), show G23 6 18 = Gj148 6 18 from (show G23 6 18 = Gj148 6 18 from (show gu_un xcd [613, 618, 2100, 2400, 2700, 4500, 4600, 4700, 4800] Gj148 G23 from (gu_un.tr (gu_un.tr gu_un.rf (gu_un.su hU14 rfl)) (gu_un.su hU25 rfl))) 6 18 (by decide)), show G23 6 16 = Gj148 6 16 from (show G23 6 16 = Gj148 6 16 from (show gu_un xcd [613, 618, 2100, 2400, 2700, 4500, 4600, 4700, 4800] Gj148 G23 from (gu_un.tr (gu_un.tr gu_un.rf (gu_un.su hU14 rfl)) (gu_un.su hU25 rfl))) 6 16 (by decide))] at h; exact h) (show G40 45 = G12 45 from funext fun k_ => (show gu_un xcd [614, 615, 617, 619, 2400] G12 G40 from (gu_un.tr (gu_un.tr gu_un.rf (gu_un.su hU25 rfl)) (gu_un.su hU42 rfl))) 45 k_ (by simp [xcd])) (show G40 46 = G12 46 from funext fun k_ => (show gu_un xcd [614, 615, 617, 619, 2400] G12 G40 from (gu_un.tr (gu_un.tr gu_un.rf (gu_un.su hU25 rfl)) (gu_un.su hU42 rfl))) 46 k_ (by simp [xcd])) (show G40 47 = G12 47 from funext fun k_ => (show gu_un xcd [614, 615, 617, 619, 2400] G12 G40 from (gu_un.tr (gu_un.tr gu_un.rf (gu_un.su hU25 rfl)) (gu_un.su hU42 rfl))) 47 k_ (by simp [xcd])) (show G40 48 = G12 48 from funext fun k_ => (show gu_un xcd [614, 615, 617, 619, 2400] G12 G40 from (gu_un.tr (gu_un.tr gu_un.rf (gu_un.su hU25 rfl)) (gu_un.su hU42 rfl))) 48 k_ (by simp [xcd])) (show G40 6 12 = G12 6 12 from (show gu_un xcd [614, 615, 617, 619, 2400] G12 G40 from (gu_un.tr (gu_un.tr gu_un.rf (gu_un.su hU25 rfl)) (gu_un.su hU42 rfl))) 6 12 (by decide)) (show G40 6 17 = G12 6 17 from (show gu_un xcd [614, 615, 617, 619, 2400] G12 G40 from (gu_un.tr (gu_un.tr gu_un.rf (gu_un.su hU25 rfl)) (gu_un.su hU42 rfl))) 6 17 (by decide)) (show G40 6 19 = Gj148 6 19 from (show gu_un xcd [613, 614, 615, 617, 618, 619, 2100, 2400, 2700, 4500, 4600, 4700, 4800] Gj148 G40 from (gu_un.tr (gu_un.tr (gu_un.tr gu_un.rf (gu_un.su hU14 rfl)) (gu_un.su hU25 rfl)) (gu_un.su hU42 rfl))) 6 19 (by decide)) (by omega) rfl; exact ⟨h9.1, fun _ => h9.2⟩) (by rw [show x121_10.toInt * (G 18 0).toInt + y52.toInt = (x121_10.toInt * (G 18 0).toInt + x148_11.toInt) + 1 by omega]; exact rnd_1 r3 (by omega) (by omega) q50) (xMt.tr mt (show G40 6 7 = Gj148 6 7 from (show gu_un xcd [613, 614, 615, 617, 618, 619, 2100, 2400, 2700, 4500, 4600, 4700, 4800] Gj148 G40 from (gu_un.tr (gu_un.tr (gu_un.tr gu_un.rf (gu_un.su hU14 rfl)) (gu_un.su hU25 rfl)) (gu_un.su hU42 rfl))) 6 7 (by decide)) (show G40 44 = Gj148 44 from funext fun k_ => (show gu_un xcd [613, 614, 615, 617, 618, 619, 2100, 2400, 2700, 4500, 4600, 4700, 4800] Gj148 G40 from (gu_un.tr (gu_un.tr (gu_un.tr gu_un.rf (gu_un.su hU14 rfl)) (gu_un.su hU25 rfl)) (gu_un.su hU42 rfl))) 44 k_ (by simp [xcd]))) (by (first | omega | (simp only [Int32.reduceToInt, true_and, and_true, ne_eq, not_true_eq_false, false_and, or_false, false_or, true_or, or_true, false_implies] <;> omega))) (by have e9_6_19 : G40 6 19 = (Gj148 6 19) := (hU42 6 19 (by decide)).trans ((hU25 6 19 (by decide)).trans (hU14 6 19 (by decide))); (try simp only [e9_6_19, true_and, and_true]) <;> (first | omega | (simp only [Int32.reduceToInt, true_and, and_true, ne_eq, not_true_eq_false, false_and, or_false, false_or, true_or, or_true, false_implies] <;> omega))) (by have e9_6_4 : G40 6 4 = (G 6 4) := (hU42 6 4 (by decide)).trans ((hU25 6 4 (by decide)).trans ((hU14 6 4 (by decide)).trans ((jU148 6 4 (by decide)).trans (jU121 6 4 (by decide))))); (try simp only [e9_6_4, true_and, and_true]) <;> (first | omega | (simp only [Int32.reduceToInt, true_and, and_true, ne_eq, not_true_eq_false, false_and, or_false, false_or, true_or, or_true, false_implies] <;> omega))) (by (first | omega | (simp only [Int32.reduceToInt, true_and, and_true, ne_eq, not_true_eq_false, false_and, or_false, false_or, true_or, or_true, false_implies] <;> omega))) (by have e9_18_0 : G40 18 0 = (G 18 0) := (hU42 18 0 (by decide)).trans ((hU25 18 0 (by decide)).trans ((hU14 18 0 (by decide)).trans ((jU148 18 0 (by decide)).trans (jU121 18 0 (by decide))))); (try simp only [e9_18_0, true_and, and_true]) <;> (first | omega | (simp only [Int32.reduceToInt, true_and, and_true, ne_eq, not_true_eq_false, false_and, or_false, false_or, true_or, or_true, false_implies] <;> omega)))
      refine g_iload F 8 dX5_run_121 rfl ?_
      refine g_aload_n F 0 dX5_run_123 rfl rfl ?_
      refine xg_6_4 F i_X5 w_5 dX5_run_124 (G 6 4) (jU121 6 4 (by decide)) ?_
      have b53 := ti_rng (G 6 4)
      refine v_icmp_ge F 261 dX5_run_127 (by decide) x121_10.toInt (G 6 4).toInt rfl rfl (fun c54 => ?_) (fun c54 => ?_)
      · refine g_aload_n F 0 dX5_run_261 rfl rfl ?_
        refine g_aload_n F 0 dX5_run_262 rfl rfl ?_
        refine xg_6_8 F i_X5 w_3 dX5_run_263 ?_
        refine g_iconst F 0 dX5_run_266 (by decide) ?_
        refine g_iload F 3 dX5_run_267 rfl ?_
        refine u_callSi (k := 0) (n := 0) (As := [.ref (a 45), .int 0, .int (G 18 0)]) (st := [.ref (a 6)]) F (fun sz => S_X5_greatest_45 l D K a Gj121 0 0 (G 18 0) (G 18 0).toInt rfl (by decide) rfl (by omega) jI121 sz) (va_cwS 3 hts gX5_run_X5_greatest rfl rfl rfl (by decide +kernel) ⟨Nat.le_of_ble_eq_true rfl, Nat.le_of_ble_eq_true rfl⟩) rfl (Nat.le_of_ble_eq_true rfl) ⟨Nat.zero_le _, Nat.zero_le _⟩ dX5_run_269 (fun r55 _ hw56 => ?_)
        have q58 : ((0 : Int) = 0 ∧ 1 ≤ (G 18 0).toInt ∧ (G 18 0).toInt ≤ 16 → r55.toInt = psMx (Gj121 45) ((G 18 0).toInt - 1).toNat) := hw56.2
        have rg59 := hw56.1
        clear hw56
        refine g_aload_n F 0 dX5_run_272 rfl rfl ?_
        refine xg_6_8 F i_X5 w_3 dX5_run_273 ?_
        refine g_iconst F 0 dX5_run_276 (by decide) ?_
        refine g_iload F 3 dX5_run_277 rfl ?_
        refine u_callSi (k := 0) (n := 0) (As := [.ref (a 45), .int 0, .int (G 18 0)]) (st := [.int r55, .ref (a 6)]) F (fun sz => S_X5_least_45 l D K a Gj121 0 0 (G 18 0) (G 18 0).toInt rfl (by decide) rfl (by omega) jI121 sz) (va_cwS 3 hts gX5_run_X5_least rfl rfl rfl (by decide +kernel) ⟨Nat.le_of_ble_eq_true rfl, Nat.le_of_ble_eq_true rfl⟩) rfl (Nat.le_of_ble_eq_true rfl) ⟨Nat.zero_le _, Nat.zero_le _⟩ dX5_run_279 (fun r60 _ hw61 => ?_)
        have q63 : (0 ≤ (0 : Int) ∧ 1 ≤ (G 18 0).toInt ∧ (0 : Int) + (G 18 0).toInt ≤ 16 → r60.toInt = psMn (fun q => (Gj121 45) ((0 : Int).toNat + q)) ((G 18 0).toInt - 1).toNat) := hw61.2
        have rg64 := hw61.1
        clear hw61
        refine u_isub F dX5_run_282 r55.toInt r60.toInt rfl rfl (by omega) (by omega) (fun y65 ey65 => ?_)
        refine xp_6_15 F i_X5 w_6 dX5_run_283 ?_
        refine g_iload F 6 dX5_run_286 rfl ?_
        refine v_if_eq F 293 dX5_run_288 (by decide) x121_8.toInt rfl (fun c66 => ?_) (fun c66 => ?_)
        · refine g_aload_n F 0 dX5_run_293 rfl rfl ?_
          refine xg_6_15 F i_X5 w_6 dX5_run_294 y65 (rfl) ?_
          refine g_aload_n F 0 dX5_run_297 rfl rfl ?_
          refine xg_6_0 F i_X5 w_1 dX5_run_298 ?_
          refine xg_2_0 F i_X7 w_7 dX5_run_301 ?_
          refine g_bipush F 8 dX5_run_304 (by decide) ?_
          refine u1_iald F 18 0 xc_18 rfl 8 rfl (by decide) (by decide) dX5_run_306 (G 18 8) (jU121 18 8 (by decide)) ?_
          refine v_icmp_le F 314 dX5_run_307 (by decide) y65.toInt (G 18 8).toInt rfl rfl (fun c67 => ?_) (fun c67 => ?_)
          · refine g_iconst F 0 dX5_run_314 (by decide) ?_
            exact u_iret F hA hQ hr (gu_up Gj121 6 15 y65) (⟨(gu_I.up (j := 6) (k := 15) (v := y65) jI121 (ti_rng _).1 (ti_rng _).2), (gu_un.up (j := 6) (k := 15) (v := y65) (gu_un.tr gu_un.rf (gu_un.su jU121 rfl)) (show (616 : Nat) ∈ ([608, 613, 614, 615, 616, 617, 618, 619, 620, 2100, 2400, 2700, 4400, 4500, 4600, 4700, 4800] : List Nat) by decide)), (by decide), (by show (0 = -4 ∨ (0 ≤ 0 ∧ 0 ≤ 2)); (first | omega | (simp only [Int32.reduceToInt, true_and, and_true, ne_eq, not_true_eq_false, false_and, or_false, false_or, true_or, or_true, false_implies] <;> omega))), (fun h9 => by obtain ⟨n9, a1, a2, a3⟩ := r1; have tm := Int.mul_le_mul_of_nonneg_right (show x121_10.toInt ≤ (G 6 4).toInt by omega) (show (0 : Int) ≤ (G 18 0).toInt by omega); have hf := xRl.fin (m := ((G 6 4).toInt * (G 18 0).toInt).toNat) (a3 h9.1).1 (a3 h9.1).2 (by omega) (by by_cases e : x121_8.toInt = 0 <;> first | exact Or.inl e | (right; have a4 := a2 e; rw [show x121_10.toInt = (G 6 4).toInt by omega] at a4; omega)); exact ⟨_, _, lv.1, lv.2, hf.1.sh (by first | (rw [if_pos (by decide)]; omega) | (rw [if_neg (by decide)]; omega)), hf.2, by have g1 := q58 ⟨rfl, by omega, by omega⟩; have g2 := q63 ⟨by omega, by omega, by omega⟩; have g3 : psMn (fun q => (Gj121 45) ((0 : Int).toNat + q)) ((G 18 0).toInt - 1).toNat = psMn (Gj121 45) ((G 18 0).toInt - 1).toNat := psMn_eq (fun i _ => by rw [show (0 : Int).toNat + i = i by omega]); show y65.toInt = psMx (Gj121 45) _ - psMn (Gj121 45) _; omega, by first | exact Or.inl (by decide) | exact Or.inr (Or.inl ⟨by decide, by show (G 18 8).toInt < y65.toInt; omega⟩) | exact Or.inr (Or.inr ⟨by decide, by show y65.toInt ≤ (G 18 8).toInt; omega⟩)⟩), (by have h7 := lv.1; exact Or.inr ⟨by decide, by omega⟩)⟩) rfl rfl dX5_run_315
          · refine g_iconst F 1 dX5_run_310 (by decide) ?_
            refine g_goto F 315 dX5_run_311 (by decide) ?_
            exact u_iret F hA hQ hr (gu_up Gj121 6 15 y65) (⟨(gu_I.up (j := 6) (k := 15) (v := y65) jI121 (ti_rng _).1 (ti_rng _).2), (gu_un.up (j := 6) (k := 15) (v := y65) (gu_un.tr gu_un.rf (gu_un.su jU121 rfl)) (show (616 : Nat) ∈ ([608, 613, 614, 615, 616, 617, 618, 619, 620, 2100, 2400, 2700, 4400, 4500, 4600, 4700, 4800] : List Nat) by decide)), (by decide), (by show (1 = -4 ∨ (0 ≤ 1 ∧ 1 ≤ 2)); (first | omega | (simp only [Int32.reduceToInt, true_and, and_true, ne_eq, not_true_eq_false, false_and, or_false, false_or, true_or, or_true, false_implies] <;> omega))), (fun h9 => by obtain ⟨n9, a1, a2, a3⟩ := r1; have tm := Int.mul_le_mul_of_nonneg_right (show x121_10.toInt ≤ (G 6 4).toInt by omega) (show (0 : Int) ≤ (G 18 0).toInt by omega); have hf := xRl.fin (m := ((G 6 4).toInt * (G 18 0).toInt).toNat) (a3 h9.1).1 (a3 h9.1).2 (by omega) (by by_cases e : x121_8.toInt = 0 <;> first | exact Or.inl e | (right; have a4 := a2 e; rw [show x121_10.toInt = (G 6 4).toInt by omega] at a4; omega)); exact ⟨_, _, lv.1, lv.2, hf.1.sh (by first | (rw [if_pos (by decide)]; omega) | (rw [if_neg (by decide)]; omega)), hf.2, by have g1 := q58 ⟨rfl, by omega, by omega⟩; have g2 := q63 ⟨by omega, by omega, by omega⟩; have g3 : psMn (fun q => (Gj121 45) ((0 : Int).toNat + q)) ((G 18 0).toInt - 1).toNat = psMn (Gj121 45) ((G 18 0).toInt - 1).toNat := psMn_eq (fun i _ => by rw [show (0 : Int).toNat + i = i by omega]); show y65.toInt = psMx (Gj121 45) _ - psMn (Gj121 45) _; omega, by first | exact Or.inl (by decide) | exact Or.inr (Or.inl ⟨by decide, by show (G 18 8).toInt < y65.toInt; omega⟩) | exact Or.inr (Or.inr ⟨by decide, by show y65.toInt ≤ (G 18 8).toInt; omega⟩)⟩), (by have h7 := lv.1; exact Or.inr ⟨by decide, by omega⟩)⟩) rfl rfl dX5_run_315
        · refine g_iconst F 2 dX5_run_291 (by decide) ?_
          exact u_iret F hA hQ hr (gu_up Gj121 6 15 y65) (⟨(gu_I.up (j := 6) (k := 15) (v := y65) jI121 (ti_rng _).1 (ti_rng _).2), (gu_un.up (j := 6) (k := 15) (v := y65) (gu_un.tr gu_un.rf (gu_un.su jU121 rfl)) (show (616 : Nat) ∈ ([608, 613, 614, 615, 616, 617, 618, 619, 620, 2100, 2400, 2700, 4400, 4500, 4600, 4700, 4800] : List Nat) by decide)), (by decide), (by show (2 = -4 ∨ (0 ≤ 2 ∧ 2 ≤ 2)); (first | omega | (simp only [Int32.reduceToInt, true_and, and_true, ne_eq, not_true_eq_false, false_and, or_false, false_or, true_or, or_true, false_implies] <;> omega))), (fun h9 => by obtain ⟨n9, a1, a2, a3⟩ := r1; have tm := Int.mul_le_mul_of_nonneg_right (show x121_10.toInt ≤ (G 6 4).toInt by omega) (show (0 : Int) ≤ (G 18 0).toInt by omega); have hf := xRl.fin (m := ((G 6 4).toInt * (G 18 0).toInt).toNat) (a3 h9.1).1 (a3 h9.1).2 (by omega) (by by_cases e : x121_8.toInt = 0 <;> first | exact Or.inl e | (right; have a4 := a2 e; rw [show x121_10.toInt = (G 6 4).toInt by omega] at a4; omega)); exact ⟨_, _, lv.1, lv.2, hf.1.sh (by first | (rw [if_pos (by decide)]; omega) | (rw [if_neg (by decide)]; omega)), hf.2, by have g1 := q58 ⟨rfl, by omega, by omega⟩; have g2 := q63 ⟨by omega, by omega, by omega⟩; have g3 : psMn (fun q => (Gj121 45) ((0 : Int).toNat + q)) ((G 18 0).toInt - 1).toNat = psMn (Gj121 45) ((G 18 0).toInt - 1).toNat := psMn_eq (fun i _ => by rw [show (0 : Int).toNat + i = i by omega]); show y65.toInt = psMx (Gj121 45) _ - psMn (Gj121 45) _; omega, by first | exact Or.inl (by decide) | exact Or.inr (Or.inl ⟨by decide, by show (G 18 8).toInt < y65.toInt; omega⟩) | exact Or.inr (Or.inr ⟨by decide, by show y65.toInt ≤ (G 18 8).toInt; omega⟩)⟩), (by have h7 := lv.1; exact Or.inr ⟨by decide, by omega⟩)⟩) rfl rfl dX5_run_292
      · refine g_iload F 6 dX5_run_130 rfl ?_
        refine v_if_ne F 261 dX5_run_132 (by decide) x121_8.toInt rfl (fun c68 => ?_) (fun c68 => ?_)
        · refine g_aload_n F 0 dX5_run_261 rfl rfl ?_
          refine g_aload_n F 0 dX5_run_262 rfl rfl ?_
          refine xg_6_8 F i_X5 w_3 dX5_run_263 ?_
          refine g_iconst F 0 dX5_run_266 (by decide) ?_
          refine g_iload F 3 dX5_run_267 rfl ?_
          refine u_callSi (k := 0) (n := 0) (As := [.ref (a 45), .int 0, .int (G 18 0)]) (st := [.ref (a 6)]) F (fun sz => S_X5_greatest_45 l D K a Gj121 0 0 (G 18 0) (G 18 0).toInt rfl (by decide) rfl (by omega) jI121 sz) (va_cwS 3 hts gX5_run_X5_greatest rfl rfl rfl (by decide +kernel) ⟨Nat.le_of_ble_eq_true rfl, Nat.le_of_ble_eq_true rfl⟩) rfl (Nat.le_of_ble_eq_true rfl) ⟨Nat.zero_le _, Nat.zero_le _⟩ dX5_run_269 (fun r69 _ hw70 => ?_)
          have q72 : ((0 : Int) = 0 ∧ 1 ≤ (G 18 0).toInt ∧ (G 18 0).toInt ≤ 16 → r69.toInt = psMx (Gj121 45) ((G 18 0).toInt - 1).toNat) := hw70.2
          have rg73 := hw70.1
          clear hw70
          refine g_aload_n F 0 dX5_run_272 rfl rfl ?_
          refine xg_6_8 F i_X5 w_3 dX5_run_273 ?_
          refine g_iconst F 0 dX5_run_276 (by decide) ?_
          refine g_iload F 3 dX5_run_277 rfl ?_
          refine u_callSi (k := 0) (n := 0) (As := [.ref (a 45), .int 0, .int (G 18 0)]) (st := [.int r69, .ref (a 6)]) F (fun sz => S_X5_least_45 l D K a Gj121 0 0 (G 18 0) (G 18 0).toInt rfl (by decide) rfl (by omega) jI121 sz) (va_cwS 3 hts gX5_run_X5_least rfl rfl rfl (by decide +kernel) ⟨Nat.le_of_ble_eq_true rfl, Nat.le_of_ble_eq_true rfl⟩) rfl (Nat.le_of_ble_eq_true rfl) ⟨Nat.zero_le _, Nat.zero_le _⟩ dX5_run_279 (fun r74 _ hw75 => ?_)
          have q77 : (0 ≤ (0 : Int) ∧ 1 ≤ (G 18 0).toInt ∧ (0 : Int) + (G 18 0).toInt ≤ 16 → r74.toInt = psMn (fun q => (Gj121 45) ((0 : Int).toNat + q)) ((G 18 0).toInt - 1).toNat) := hw75.2
          have rg78 := hw75.1
          clear hw75
          refine u_isub F dX5_run_282 r69.toInt r74.toInt rfl rfl (by omega) (by omega) (fun y79 ey79 => ?_)
          refine xp_6_15 F i_X5 w_6 dX5_run_283 ?_
          refine g_iload F 6 dX5_run_286 rfl ?_
          refine v_if_eq F 293 dX5_run_288 (by decide) x121_8.toInt rfl (fun c80 => absurd c80 (by omega)) (fun c80 => ?_)
          refine g_iconst F 2 dX5_run_291 (by decide) ?_
          exact u_iret F hA hQ hr (gu_up Gj121 6 15 y79) (⟨(gu_I.up (j := 6) (k := 15) (v := y79) jI121 (ti_rng _).1 (ti_rng _).2), (gu_un.up (j := 6) (k := 15) (v := y79) (gu_un.tr gu_un.rf (gu_un.su jU121 rfl)) (show (616 : Nat) ∈ ([608, 613, 614, 615, 616, 617, 618, 619, 620, 2100, 2400, 2700, 4400, 4500, 4600, 4700, 4800] : List Nat) by decide)), (by decide), (by show (2 = -4 ∨ (0 ≤ 2 ∧ 2 ≤ 2)); (first | omega | (simp only [Int32.reduceToInt, true_and, and_true, ne_eq, not_true_eq_false, false_and, or_false, false_or, true_or, or_true, false_implies] <;> omega))), (fun h9 => by obtain ⟨n9, a1, a2, a3⟩ := r1; have tm := Int.mul_le_mul_of_nonneg_right (show x121_10.toInt ≤ (G 6 4).toInt by omega) (show (0 : Int) ≤ (G 18 0).toInt by omega); have hf := xRl.fin (m := ((G 6 4).toInt * (G 18 0).toInt).toNat) (a3 h9.1).1 (a3 h9.1).2 (by omega) (by by_cases e : x121_8.toInt = 0 <;> first | exact Or.inl e | (right; have a4 := a2 e; rw [show x121_10.toInt = (G 6 4).toInt by omega] at a4; omega)); exact ⟨_, _, lv.1, lv.2, hf.1.sh (by first | (rw [if_pos (by decide)]; omega) | (rw [if_neg (by decide)]; omega)), hf.2, by have g1 := q72 ⟨rfl, by omega, by omega⟩; have g2 := q77 ⟨by omega, by omega, by omega⟩; have g3 : psMn (fun q => (Gj121 45) ((0 : Int).toNat + q)) ((G 18 0).toInt - 1).toNat = psMn (Gj121 45) ((G 18 0).toInt - 1).toNat := psMn_eq (fun i _ => by rw [show (0 : Int).toNat + i = i by omega]); show y79.toInt = psMx (Gj121 45) _ - psMn (Gj121 45) _; omega, by first | exact Or.inl (by decide) | exact Or.inr (Or.inl ⟨by decide, by show (G 18 8).toInt < y79.toInt; omega⟩) | exact Or.inr (Or.inr ⟨by decide, by show y79.toInt ≤ (G 18 8).toInt; omega⟩)⟩), (by have h7 := lv.1; exact Or.inr ⟨by decide, by omega⟩)⟩) rfl rfl dX5_run_292
        · refine g_aload_n F 0 dX5_run_135 rfl rfl ?_
          refine g_dup F dX5_run_136 rfl ?_
          refine xg_6_19 F i_X5 w_8 dX5_run_137 (Gj121 6 19) (rfl) ?_
          refine g_iconst F 1 dX5_run_140 (by decide) ?_
          refine u_iaddc F dX5_run_141 (Gj121 6 19).toInt 1 rfl rfl (fun y81 ey81 => ?_)
          refine xp_6_19 F i_X5 w_8 dX5_run_142 ?_
          refine g_iconst F 0 dX5_run_145 (by decide) ?_
          refine g_istore F [(11, .int 0), (0, .ref (a 6)), (3, .int p2), (4, .int p3), (5, .int (G 18 0)), (6, .int x121_6), (7, .int x121_7), (8, .int x121_8), (9, .int x121_9), (10, .int x121_10)] dX5_run_146 (by decide) rfl ?_
          refine g_locals [(0, .ref (a 6)), (3, .int p2), (4, .int p3), (5, .int (G 18 0)), (6, .int x121_6), (7, .int x121_7), (8, .int x121_8), (9, .int x121_9), (10, .int x121_10), (11, .int 0)] [1, 2, 3, 4, 5, 6, 7, 8, 9, 0] rfl ?_
          exact J_148 _ x121_8 x121_9 0 (gu_up Gj121 6 19 y81) (Nat.lt_succ_self _) (by have h9 := ti_rng x121_8; omega) (by have h9 := ti_rng x121_9; omega) (by have h9 := ti_rng x121_10; omega) (by decide) (gu_I.up (j := 6) (k := 19) (v := y81) jI121 (ti_rng _).1 (ti_rng _).2) (gu_un.up (j := 6) (k := 19) (v := y81) gu_un.rf (show (620 : Nat) ∈ ([613, 614, 615, 617, 618, 619, 620, 2100, 2400, 2700, 4500, 4600, 4700, 4800] : List Nat) by decide)) (fun hz => by obtain ⟨n9, a1, a2, a3⟩ := r1; rw [show (x121_10.toInt * (G 18 0).toInt + Int32.toInt 0).toNat = n9 by (rw [show Int32.toInt 0 = 0 from rfl]; have a4 := a2 (by omega); omega)]; exact ⟨(a3 hz).1, fun h9 => absurd h9 (by decide)⟩) (by obtain ⟨n9, a1, a2, a3⟩ := r1; have a4 := a2 (by omega); rw [show Int32.toInt 0 = 0 from rfl, Int.add_zero, ← a4.1]; exact a4.2) (xMt.tr mt_121 (show (gu_up Gj121 6 19 y81) 6 7 = Gj121 6 7 from (show gu_un xcd [620] Gj121 (gu_up Gj121 6 19 y81) from (gu_un.up (j := 6) (k := 19) (v := y81) gu_un.rf (show (620 : Nat) ∈ ([620] : List Nat) by decide))) 6 7 (by decide)) (show (gu_up Gj121 6 19 y81) 44 = Gj121 44 from funext fun k_ => (show gu_un xcd [620] Gj121 (gu_up Gj121 6 19 y81) from (gu_un.up (j := 6) (k := 19) (v := y81) gu_un.rf (show (620 : Nat) ∈ ([620] : List Nat) by decide))) 44 k_ (by simp [xcd]))) (by have e9_6_13 : (gu_up Gj121 6 19 y81) 6 13 = (Gj121 6 13) := rfl; have e9_6_14 : (gu_up Gj121 6 19 y81) 6 14 = (Gj121 6 14) := rfl; (try simp only [e9_6_13, e9_6_14, true_and, and_true]) <;> (first | omega | (simp only [Int32.reduceToInt, true_and, and_true, ne_eq, not_true_eq_false, false_and, or_false, false_or, true_or, or_true, false_implies] <;> omega))) (by have e9_6_19 : (gu_up Gj121 6 19 y81) 6 19 = y81 := rfl; (try simp only [e9_6_19, true_and, and_true]) <;> (first | omega | (simp only [Int32.reduceToInt, true_and, and_true, ne_eq, not_true_eq_false, false_and, or_false, false_or, true_or, or_true, false_implies] <;> omega))) (by have e9_6_4 : (gu_up Gj121 6 19 y81) 6 4 = (G 6 4) := jU121 6 4 (by decide); (try simp only [e9_6_4, true_and, and_true]) <;> (first | omega | (simp only [Int32.reduceToInt, true_and, and_true, ne_eq, not_true_eq_false, false_and, or_false, false_or, true_or, or_true, false_implies] <;> omega))) (by (first | omega | (simp only [Int32.reduceToInt, true_and, and_true, ne_eq, not_true_eq_false, false_and, or_false, false_or, true_or, or_true, false_implies] <;> omega))) (by have e9_18_0 : (gu_up Gj121 6 19 y81) 18 0 = (G 18 0) := jU121 18 0 (by decide); (try simp only [e9_18_0, true_and, and_true]) <;> (first | omega | (simp only [Int32.reduceToInt, true_and, and_true, ne_eq, not_true_eq_false, false_and, or_false, false_or, true_or, or_true, false_implies] <;> omega)))
  refine g_aload_n F 0 dX5_run_0 rfl rfl ?_
  refine xg_6_0 F i_X5 w_1 dX5_run_1 ?_
  refine xg_2_0 F i_X7 w_7 dX5_run_4 ?_
  refine g_iconst F 0 dX5_run_7 (by decide) ?_
  refine u1_iald F 18 0 xc_18 rfl 0 rfl (by decide) (by decide) dX5_run_8 (G 18 0) (rfl) ?_
  refine g_istore F [(5, .int (G 18 0)), (0, .ref (a 6)), (1, .ref (a 38)), (2, .int p1), (3, .int p2), (4, .int p3)] dX5_run_9 (by decide) rfl ?_
  refine g_aload_n F 1 dX5_run_11 rfl rfl ?_
  refine xg_6_0 F i_X5 w_1 dX5_run_12 ?_
  refine g_aload_n F 1 dX5_run_15 rfl rfl ?_
  refine xg_6_1 F i_X5 w_9 dX5_run_16 (G 6 1) (rfl) ?_
  refine u_callVi (k := 0) (n := 0) (b := a 2) (As := [.int (G 6 1)]) (st := []) F (fun sz => S_X7_hasRing_2 l D K a G (G 6 1) (G 6 1).toInt rfl hI sz) (cwV 1 hts gX5_run_X7_hasRing rfl rfl rfl (by decide +kernel) ⟨Nat.le_of_ble_eq_true rfl, Nat.le_of_ble_eq_true rfl⟩) rfl 2 xc_2 rfl (Nat.le_of_ble_eq_true rfl) ⟨Nat.zero_le _, Nat.zero_le _⟩ dX5_run_19 (fun r82 _ hw83 => ?_)
  rcases hw83 with ⟨rfl, q85⟩ | ⟨rfl, q86⟩
  · have q85 : (0 ≤ (G 6 1).toInt ∧ (G 6 1).toInt < (G 18 1).toInt) := q85
    refine v_if_eq F 45 dX5_run_22 (by decide) 1 rfl (fun c87 => absurd c87 (by decide)) (fun c87 => ?_)
    refine g_iload F 0 dX5_run_25 rfl ?_
    refine g_iconst F 1 dX5_run_27 (by decide) ?_
    refine v_icmp_lt F 45 dX5_run_28 (by decide) (G 18 0).toInt 1 rfl rfl (fun c88 => absurd c88 (by omega)) (fun c88 => ?_)
    refine g_iload F 0 dX5_run_31 rfl ?_
    refine g_bipush F 16 dX5_run_33 (by decide) ?_
    refine v_icmp_gt F 45 dX5_run_35 (by decide) (G 18 0).toInt 16 rfl rfl (fun c89 => absurd c89 (by omega)) (fun c89 => ?_)
    refine g_aload_n F 2 dX5_run_38 rfl rfl ?_
    refine g_alen F 38 0 xc_38 rfl 96 rfl dX5_run_39 ?_
    refine g_bipush F 96 dX5_run_40 (by decide) ?_
    refine v_icmp_ge F 48 dX5_run_42 (by decide) 96 96 rfl rfl (fun c90 => ?_) (fun c90 => absurd c90 (by decide))
    refine g_aload_n F 2 dX5_run_48 rfl rfl ?_
    refine g_aload_n F 1 dX5_run_49 rfl rfl ?_
    refine xg_6_1 F i_X5 w_9 dX5_run_50 (G 6 1) (rfl) ?_
    refine g_iconst F 0 dX5_run_53 (by decide) ?_
    refine u_call0 (k := 0) (n := 0) (As := [.int (G 6 1), .int 0]) (st := [.ref (a 38)]) F (fun sz => S_X6_placeOf_b5_b15 l D (G 6 1) (G 6 1).toInt 0 0 rfl (by omega) rfl (by decide) sz) (va_cwS 2 hts gX5_run_X6_placeOf rfl rfl rfl (by decide +kernel) ⟨Nat.le_of_ble_eq_true rfl, Nat.le_of_ble_eq_true rfl⟩) rfl (Nat.le_of_ble_eq_true rfl) ⟨Nat.zero_le _, Nat.zero_le _⟩ dX5_run_54 (fun r91 _ hw92 => ?_)
    have rg94 := hw92.1
    have rg95 := hw92.2
    clear hw92
    refine g_aload_n F 1 dX5_run_57 rfl rfl ?_
    refine xg_6_8 F i_X5 w_3 dX5_run_58 ?_
    refine g_iconst F 0 dX5_run_61 (by decide) ?_
    refine g_iload F 0 dX5_run_62 rfl ?_
    refine u_copyi F w_10 w_11 w_12 w_13 38 45 0 xc_38 xc_45 rfl r91.toInt 0 (G 18 0).toInt rfl rfl rfl (by omega) (by decide) (by omega) (by omega) (by omega) (Nat.le_of_ble_eq_true rfl) (Nat.le_of_ble_eq_true rfl) (xW K a (gu_st G 45 (va_cpy (G 38) (G 45) (r91.toInt).toNat 0 ((G 18 0).toInt).toNat))) (xs_45 _) dX5_run_64 ?_
    refine g_aload_n F 1 dX5_run_67 rfl rfl ?_
    refine xg_6_8 F i_X5 w_3 dX5_run_68 ?_
    refine g_iconst F 0 dX5_run_71 (by decide) ?_
    refine g_iload F 0 dX5_run_72 rfl ?_
    refine u_callSi (k := 0) (n := 0) (As := [.ref (a 45), .int 0, .int (G 18 0)]) (st := []) F (fun sz => S_X5_greatest_45 l D K a (gu_st G 45 (va_cpy (G 38) (G 45) (r91.toInt).toNat 0 ((G 18 0).toInt).toNat)) 0 0 (G 18 0) (G 18 0).toInt rfl (by decide) rfl (by omega) (gu_I.cpy (j := 45) (f := G 38) (sp := (r91.toInt).toNat) (dp := 0) hI (fun k_ => (show ((-9998) : Int) ≤ (G 38 ((r91.toInt).toNat + k_)).toInt ∧ (G 38 ((r91.toInt).toNat + k_)).toInt ≤ 5000 from ⟨Int.le_trans (show ((-9998) : Int) ≤ (-9998) by decide) (hI 38 _).1, Int.le_trans (hI 38 _).2 (show (5000 : Int) ≤ 5000 by decide)⟩))) sz) (va_cwS 3 hts gX5_run_X5_greatest rfl rfl rfl (by decide +kernel) ⟨Nat.le_of_ble_eq_true rfl, Nat.le_of_ble_eq_true rfl⟩) rfl (Nat.le_of_ble_eq_true rfl) ⟨Nat.zero_le _, Nat.zero_le _⟩ dX5_run_74 (fun r96 _ hw97 => ?_)
    have q99 : ((0 : Int) = 0 ∧ 1 ≤ (G 18 0).toInt ∧ (G 18 0).toInt ≤ 16 → r96.toInt = psMx ((gu_st G 45 (va_cpy (G 38) (G 45) (r91.toInt).toNat 0 ((G 18 0).toInt).toNat)) 45) ((G 18 0).toInt - 1).toNat) := hw97.2
    have rg100 := hw97.1
    clear hw97
    refine g_istore F [(6, .int r96), (5, .int (G 18 0)), (0, .ref (a 6)), (1, .ref (a 38)), (2, .int p1), (3, .int p2), (4, .int p3)] dX5_run_77 (by decide) rfl ?_
    refine g_iload F 0 dX5_run_79 rfl ?_
    refine g_aload_n F 2 dX5_run_81 rfl rfl ?_
    refine xg_6_3 F i_X5 w_0 dX5_run_82 (G 6 3) (rfl) ?_
    refine g_aload_n F 2 dX5_run_85 rfl rfl ?_
    refine xg_6_4 F i_X5 w_5 dX5_run_86 (G 6 4) (rfl) ?_
    refine g_imul F dX5_run_89 ?_
    have mp0 := Int.mul_nonneg (show (0 : Int) ≤ (G 6 3).toInt by omega) (show (0 : Int) ≤ (G 6 4).toInt by omega)
    have mp1 : (G 6 3).toInt * (G 6 4).toInt ≤ 20 * 12 := Int.mul_le_mul (by omega) (by omega) (by omega) (by omega)
    have mp : (((G 6 3) * (G 6 4)) : Int32).toInt = (G 6 3).toInt * (G 6 4).toInt := ti_mul rfl rfl (by omega) (by omega)
    refine u_isub F dX5_run_90 r96.toInt (((G 6 3) * (G 6 4)) : Int32).toInt rfl rfl (by omega) (by omega) (fun y101 ey101 => ?_)
    refine g_iconst F 1 dX5_run_91 (by decide) ?_
    refine v_icmp_ge F 98 dX5_run_92 (by decide) y101.toInt 1 rfl rfl (fun c102 => ?_) (fun c102 => ?_)
    · refine g_aload_n F 2 dX5_run_98 rfl rfl ?_
      refine g_aload_n F 3 dX5_run_99 rfl rfl ?_
      refine g_iload F 0 dX5_run_100 rfl ?_
      refine u_callVi (k := 0) (n := 0) (b := a 6) (As := [.ref (a 38), .int r96]) (st := []) F (fun sz => S_X5_gapIn_38 l D K a (gu_st G 45 (va_cpy (G 38) (G 45) (r91.toInt).toNat 0 ((G 18 0).toInt).toNat)) r96 r96.toInt rfl (by omega) (by have e9_6_1 : (gu_st G 45 (va_cpy (G 38) (G 45) (r91.toInt).toNat 0 ((G 18 0).toInt).toNat)) 6 1 = (G 6 1) := rfl; (try simp only [e9_6_1, true_and, and_true]) <;> (first | omega | (simp only [Int32.reduceToInt, true_and, and_true, ne_eq, not_true_eq_false, false_and, or_false, false_or, true_or, or_true, false_implies] <;> omega))) (by have e9_6_1 : (gu_st G 45 (va_cpy (G 38) (G 45) (r91.toInt).toNat 0 ((G 18 0).toInt).toNat)) 6 1 = (G 6 1) := rfl; have e9_18_1 : (gu_st G 45 (va_cpy (G 38) (G 45) (r91.toInt).toNat 0 ((G 18 0).toInt).toNat)) 18 1 = (G 18 1) := rfl; (try simp only [e9_6_1, e9_18_1, true_and, and_true]) <;> (first | omega | (simp only [Int32.reduceToInt, true_and, and_true, ne_eq, not_true_eq_false, false_and, or_false, false_or, true_or, or_true, false_implies] <;> omega))) (gu_I.cpy (j := 45) (f := G 38) (sp := (r91.toInt).toNat) (dp := 0) hI (fun k_ => (show ((-9998) : Int) ≤ (G 38 ((r91.toInt).toNat + k_)).toInt ∧ (G 38 ((r91.toInt).toNat + k_)).toInt ≤ 5000 from ⟨Int.le_trans (show ((-9998) : Int) ≤ (-9998) by decide) (hI 38 _).1, Int.le_trans (hI 38 _).2 (show (5000 : Int) ≤ 5000 by decide)⟩))) sz) (cwV 2 hts gX5_run_X5_gapIn rfl rfl rfl (by decide +kernel) ⟨Nat.le_of_ble_eq_true rfl, Nat.le_of_ble_eq_true rfl⟩) rfl 6 xc_6 rfl (Nat.le_of_ble_eq_true rfl) ⟨Nat.zero_le _, Nat.zero_le _⟩ dX5_run_102 (fun r103 _ hw104 => ?_)
      have q106 : (r103.toInt = psGa (G 38) (G 6 1).toInt (G 18 1).toInt (G 18 0).toInt r96.toInt) := hw104.2
      have rg107 := hw104.1
      clear hw104
      refine g_istore F [(7, .int r103), (6, .int r96), (5, .int (G 18 0)), (0, .ref (a 6)), (1, .ref (a 38)), (2, .int p1), (3, .int p2), (4, .int p3)] dX5_run_105 (by decide) rfl ?_
      refine g_aload_n F 3 dX5_run_107 rfl rfl ?_
      refine g_iload_n F 5 dX5_run_108 rfl rfl ?_
      refine u_callVv (k := 0) (n := 0) (b := a 6) (As := [.int p1]) (st := []) F (fun sz => S_X5_begin l D K a (gu_st G 45 (va_cpy (G 38) (G 45) (r91.toInt).toNat 0 ((G 18 0).toInt).toNat)) p1 s1 e1 (by omega) (gu_I.cpy (j := 45) (f := G 38) (sp := (r91.toInt).toNat) (dp := 0) hI (fun k_ => (show ((-9998) : Int) ≤ (G 38 ((r91.toInt).toNat + k_)).toInt ∧ (G 38 ((r91.toInt).toNat + k_)).toInt ≤ 5000 from ⟨Int.le_trans (show ((-9998) : Int) ≤ (-9998) by decide) (hI 38 _).1, Int.le_trans (hI 38 _).2 (show (5000 : Int) ≤ 5000 by decide)⟩))) sz) (cwV 1 hts gX5_run_X5_begin rfl rfl rfl (by decide +kernel) ⟨Nat.le_of_ble_eq_true rfl, Nat.le_of_ble_eq_true rfl⟩) rfl 6 xc_6 rfl (Nat.le_of_ble_eq_true rfl) ⟨Nat.zero_le _, Nat.zero_le _⟩ dX5_run_109 (fun G110 hw109 => ?_)
      have hI111 : xI G110 := hw109.1
      have hU112 : gu_un xcd [608, 613, 614, 615, 617, 618, 619, 620, 4400, 4600] (gu_st G 45 (va_cpy (G 38) (G 45) (r91.toInt).toNat 0 ((G 18 0).toInt).toNat)) G110 := hw109.2.1
      have hp113 := hw109.2.2
      have q114 : xMt (gu_st G 45 (va_cpy (G 38) (G 45) (r91.toInt).toNat 0 ((G 18 0).toInt).toNat)) G110 := hp113.1
      have q115 : (∀ q : Nat, q < 16 → G110 46 q = -1) := hp113.2.1
      have q116 : (G110 6 12 = p1 ∧ G110 6 13 = 0 ∧ G110 6 14 = 0 ∧ G110 6 16 = 0 ∧ G110 6 17 = 0 ∧ G110 6 18 = 0 ∧ G110 6 19 = 0) := hp113.2.2
      have bz13 : (G110 6 13).toInt = 0 := by rw [q116.2.1]; rfl
      have bz14 : (G110 6 14).toInt = 0 := by rw [q116.2.2.1]; rfl
      have bz19 : (G110 6 19).toInt = 0 := by rw [q116.2.2.2.2.2.2]; rfl
      clear hp113 hw109
      refine g_iconst F 0 dX5_run_112 (by decide) ?_
      refine g_istore F [(8, .int 0), (7, .int r103), (6, .int r96), (5, .int (G 18 0)), (0, .ref (a 6)), (1, .ref (a 38)), (2, .int p1), (3, .int p2), (4, .int p3)] dX5_run_113 (by decide) rfl ?_
      refine g_iconst F 0 dX5_run_115 (by decide) ?_
      refine g_istore F [(9, .int 0), (8, .int 0), (7, .int r103), (6, .int r96), (5, .int (G 18 0)), (0, .ref (a 6)), (1, .ref (a 38)), (2, .int p1), (3, .int p2), (4, .int p3)] dX5_run_116 (by decide) rfl ?_
      refine g_iconst F 0 dX5_run_118 (by decide) ?_
      refine g_istore F [(10, .int 0), (9, .int 0), (8, .int 0), (7, .int r103), (6, .int r96), (5, .int (G 18 0)), (0, .ref (a 6)), (1, .ref (a 38)), (2, .int p1), (3, .int p2), (4, .int p3)] dX5_run_119 (by decide) rfl ?_
      refine g_locals [(0, .ref (a 6)), (3, .int p2), (4, .int p3), (5, .int (G 18 0)), (6, .int r96), (7, .int r103), (8, .int 0), (9, .int 0), (10, .int 0)] [6, 9, 10, 5, 4, 3, 2, 1, 0] rfl ?_
      exact J_121 _ r96 r103 0 0 0 G110 (Nat.lt_succ_self _) (by have h9 := ti_rng r96; omega) (by have h9 := ti_rng r103; omega) (by decide) (by decide) (by decide) hI111 (gu_un.tr (gu_un.sw (j := 45) (f := (va_cpy (G 38) (G 45) (r91.toInt).toNat 0 ((G 18 0).toInt).toNat)) gu_un.rf (fun _ => show (4500 : Nat) ∈ ([608, 613, 614, 615, 617, 618, 619, 620, 2100, 2400, 2700, 4400, 4500, 4600, 4700, 4800] : List Nat) by decide)) (gu_un.su hU112 rfl)) (⟨0, by rw [show Int32.toInt 0 = 0 from rfl, Int.zero_mul]; exact Int.le_refl 0, fun _ => ⟨by rw [show Int32.toInt 0 = 0 from rfl, Int.zero_mul]; rfl, by show (0 : Int) = 0 % _; rw [Int.zero_emod]⟩, fun hz => ⟨(xRl.at0 (fun q hq => by rw [(show G110 45 = (va_cpy (G 38) (G 45) (r91.toInt).toNat 0 ((G 18 0).toInt).toNat) from ((show G110 45 = (gu_st G 45 (va_cpy (G 38) (G 45) (r91.toInt).toNat 0 ((G 18 0).toInt).toNat)) 45 from funext fun k_ => hU112 45 k_ (by simp [xcd])).trans (show (gu_st G 45 (va_cpy (G 38) (G 45) (r91.toInt).toNat 0 ((G 18 0).toInt).toNat)) 45 = (va_cpy (G 38) (G 45) (r91.toInt).toNat 0 ((G 18 0).toInt).toNat) from rfl)))]; unfold va_cpy; rw [if_pos (by omega)]; congr 1; omega) q115 (by omega) q116).sh rfl, fun Q C _ h9 => absurd rfl h9⟩⟩) (⟨by rw [q99 ⟨rfl, by omega, by omega⟩]; exact psMx_eq (h := (gu_st G 45 (va_cpy (G 38) (G 45) (r91.toInt).toNat 0 ((G 18 0).toInt).toNat)) 45) (g := psHr (G 38) (G 6 1).toInt (G 18 0).toInt) (n := ((G 18 0).toInt - 1).toNat) (fun q hq => by show va_cpy _ _ _ _ _ q = psHr _ _ _ q; unfold va_cpy psHr; rw [if_pos (by omega), if_pos (by omega)]; congr 1; omega), q106⟩) (xMt.tr q114 (show G110 6 7 = G110 6 7 from (show gu_un xcd [] G110 G110 from gu_un.rf) 6 7 (by decide)) (show G110 44 = G110 44 from funext fun k_ => (show gu_un xcd [] G110 G110 from gu_un.rf) 44 k_ (by simp [xcd]))) (by (first | omega | (simp only [Int32.reduceToInt, true_and, and_true, ne_eq, not_true_eq_false, false_and, or_false, false_or, true_or, or_true, false_implies] <;> omega))) (by (first | omega | (simp only [Int32.reduceToInt, true_and, and_true, ne_eq, not_true_eq_false, false_and, or_false, false_or, true_or, or_true, false_implies] <;> omega))) (by have e9_6_4 : G110 6 4 = (G 6 4) := hU112 6 4 (by decide); (try simp only [e9_6_4, true_and, and_true]) <;> (first | omega | (simp only [Int32.reduceToInt, true_and, and_true, ne_eq, not_true_eq_false, false_and, or_false, false_or, true_or, or_true, false_implies] <;> omega))) (by omega)
    · refine g_bipush F (-4) dX5_run_95 (by decide) ?_
      exact u_iret F hA hQ hr (gu_st G 45 (va_cpy (G 38) (G 45) (r91.toInt).toNat 0 ((G 18 0).toInt).toNat)) (⟨(gu_I.cpy (j := 45) (f := G 38) (sp := (r91.toInt).toNat) (dp := 0) hI (fun k_ => (show ((-9998) : Int) ≤ (G 38 ((r91.toInt).toNat + k_)).toInt ∧ (G 38 ((r91.toInt).toNat + k_)).toInt ≤ 5000 from ⟨Int.le_trans (show ((-9998) : Int) ≤ (-9998) by decide) (hI 38 _).1, Int.le_trans (hI 38 _).2 (show (5000 : Int) ≤ 5000 by decide)⟩))), (gu_un.sw (j := 45) (f := (va_cpy (G 38) (G 45) (r91.toInt).toNat 0 ((G 18 0).toInt).toNat)) gu_un.rf (fun _ => show (4500 : Nat) ∈ ([608, 613, 614, 615, 616, 617, 618, 619, 620, 2100, 2400, 2700, 4400, 4500, 4600, 4700, 4800] : List Nat) by decide)), (by decide), (by show ((-4) = -4 ∨ (0 ≤ (-4) ∧ (-4) ≤ 2)); (first | omega | (simp only [Int32.reduceToInt, true_and, and_true, ne_eq, not_true_eq_false, false_and, or_false, false_or, true_or, or_true, false_implies] <;> omega))), (fun h9 => absurd rfl h9.2), (by have h7 := q99 ⟨rfl, by omega, by omega⟩; have h6 := psMx_eq (h := (gu_st G 45 (va_cpy (G 38) (G 45) (r91.toInt).toNat 0 ((G 18 0).toInt).toNat)) 45) (g := psHr (G 38) (G 6 1).toInt (G 18 0).toInt) (n := ((G 18 0).toInt - 1).toNat) (fun q hq => by show va_cpy _ _ _ _ _ q = psHr _ _ _ q; unfold va_cpy psHr; rw [if_pos (by omega), if_pos (by omega)]; congr 1; omega); rw [h6] at h7; exact Or.inl ⟨by decide, by omega⟩)⟩) rfl rfl dX5_run_97
  · have q86 : ((G 6 1).toInt < 0 ∨ (G 18 1).toInt ≤ (G 6 1).toInt) := q86
    refine v_if_eq F 45 dX5_run_22 (by decide) 0 rfl (fun c117 => ?_) (fun c117 => absurd c117 (by decide))
    refine g_bipush F (-4) dX5_run_45 (by decide) ?_
    exact u_iret F hA hQ hr G (⟨hI, gu_un.rf, (by decide), (by show ((-4) = -4 ∨ (0 ≤ (-4) ∧ (-4) ≤ 2)); (first | omega | (simp only [Int32.reduceToInt, true_and, and_true, ne_eq, not_true_eq_false, false_and, or_false, false_or, true_or, or_true, false_implies] <;> omega))), (fun h9 => absurd rfl h9.2), (by exfalso; omega)⟩) rfl rfl dX5_run_47

theorem dX6_takePass_0 : decode cX6_takePass 0 = .ok (.aload_n 1, 1) := by decide +kernel
theorem dX6_takePass_1 : decode cX6_takePass 1 = .ok (.aload_n 0, 1) := by decide +kernel
theorem dX6_takePass_2 : decode cX6_takePass 2 = .ok (.getfield 9, 3) := by decide +kernel
theorem dX6_takePass_5 : decode cX6_takePass 5 = .ok (.invokevirtual 51, 3) := by decide +kernel
theorem dX6_takePass_8 : decode cX6_takePass 8 = .ok (.aload_n 0, 1) := by decide +kernel
theorem dX6_takePass_9 : decode cX6_takePass 9 = .ok (.aload_n 1, 1) := by decide +kernel
theorem dX6_takePass_10 : decode cX6_takePass 10 = .ok (.getfield 57, 3) := by decide +kernel
theorem dX6_takePass_13 : decode cX6_takePass 13 = .ok (.putfield 34, 3) := by decide +kernel
theorem dX6_takePass_16 : decode cX6_takePass 16 = .ok (.iconst 0, 1) := by decide +kernel
theorem dX6_takePass_17 : decode cX6_takePass 17 = .ok (.istore_n 2, 1) := by decide +kernel
theorem dX6_takePass_18 : decode cX6_takePass 18 = .ok (.iload_n 2, 1) := by decide +kernel
theorem dX6_takePass_19 : decode cX6_takePass 19 = .ok (.aload_n 0, 1) := by decide +kernel
theorem dX6_takePass_20 : decode cX6_takePass 20 = .ok (.getfield 20, 3) := by decide +kernel
theorem dX6_takePass_23 : decode cX6_takePass 23 = .ok (.getfield 47, 3) := by decide +kernel
theorem dX6_takePass_26 : decode cX6_takePass 26 = .ok (.iconst 0, 1) := by decide +kernel
theorem dX6_takePass_27 : decode cX6_takePass 27 = .ok (.iaload, 1) := by decide +kernel
theorem dX6_takePass_28 : decode cX6_takePass 28 = .ok (.if_icmp .ge 102, 3) := by decide +kernel
theorem dX6_takePass_31 : decode cX6_takePass 31 = .ok (.iload_n 2, 1) := by decide +kernel
theorem dX6_takePass_32 : decode cX6_takePass 32 = .ok (.bipush 16, 2) := by decide +kernel
theorem dX6_takePass_34 : decode cX6_takePass 34 = .ok (.if_icmp .ge 96, 3) := by decide +kernel
theorem dX6_takePass_37 : decode cX6_takePass 37 = .ok (.aload_n 1, 1) := by decide +kernel
theorem dX6_takePass_38 : decode cX6_takePass 38 = .ok (.getfield 58, 3) := by decide +kernel
theorem dX6_takePass_41 : decode cX6_takePass 41 = .ok (.iload_n 2, 1) := by decide +kernel
theorem dX6_takePass_42 : decode cX6_takePass 42 = .ok (.invokestatic 61, 3) := by decide +kernel
theorem dX6_takePass_45 : decode cX6_takePass 45 = .ok (.istore_n 3, 1) := by decide +kernel
theorem dX6_takePass_46 : decode cX6_takePass 46 = .ok (.aload_n 1, 1) := by decide +kernel
theorem dX6_takePass_47 : decode cX6_takePass 47 = .ok (.getfield 65, 3) := by decide +kernel
theorem dX6_takePass_50 : decode cX6_takePass 50 = .ok (.iload_n 2, 1) := by decide +kernel
theorem dX6_takePass_51 : decode cX6_takePass 51 = .ok (.iaload, 1) := by decide +kernel
theorem dX6_takePass_52 : decode cX6_takePass 52 = .ok (.iconst (-1), 1) := by decide +kernel
theorem dX6_takePass_53 : decode cX6_takePass 53 = .ok (.if_icmp .eq 71, 3) := by decide +kernel
theorem dX6_takePass_56 : decode cX6_takePass 56 = .ok (.iload_n 3, 1) := by decide +kernel
theorem dX6_takePass_57 : decode cX6_takePass 57 = .ok (.ifCond .lt 67, 3) := by decide +kernel
theorem dX6_takePass_60 : decode cX6_takePass 60 = .ok (.iload_n 3, 1) := by decide +kernel
theorem dX6_takePass_61 : decode cX6_takePass 61 = .ok (.bipush 96, 2) := by decide +kernel
theorem dX6_takePass_63 : decode cX6_takePass 63 = .ok (.if_icmp .ge 61, 3) := by decide +kernel
theorem dX6_takePass_66 : decode cX6_takePass 66 = .ok (.aload_n 0, 1) := by decide +kernel
theorem dX6_takePass_67 : decode cX6_takePass 67 = .ok (.getfield 17, 3) := by decide +kernel
theorem dX6_takePass_70 : decode cX6_takePass 70 = .ok (.iconst 0, 1) := by decide +kernel
theorem dX6_takePass_71 : decode cX6_takePass 71 = .ok (.aaload, 1) := by decide +kernel
theorem dX6_takePass_72 : decode cX6_takePass 72 = .ok (.iload_n 3, 1) := by decide +kernel
theorem dX6_takePass_73 : decode cX6_takePass 73 = .ok (.aload_n 0, 1) := by decide +kernel
theorem dX6_takePass_74 : decode cX6_takePass 74 = .ok (.getfield 38, 3) := by decide +kernel
theorem dX6_takePass_77 : decode cX6_takePass 77 = .ok (.iastore, 1) := by decide +kernel
theorem dX6_takePass_78 : decode cX6_takePass 78 = .ok (.aload_n 0, 1) := by decide +kernel
theorem dX6_takePass_79 : decode cX6_takePass 79 = .ok (.getfield 17, 3) := by decide +kernel
theorem dX6_takePass_82 : decode cX6_takePass 82 = .ok (.iconst 1, 1) := by decide +kernel
theorem dX6_takePass_83 : decode cX6_takePass 83 = .ok (.aaload, 1) := by decide +kernel
theorem dX6_takePass_84 : decode cX6_takePass 84 = .ok (.iload_n 3, 1) := by decide +kernel
theorem dX6_takePass_85 : decode cX6_takePass 85 = .ok (.aload_n 1, 1) := by decide +kernel
theorem dX6_takePass_86 : decode cX6_takePass 86 = .ok (.getfield 65, 3) := by decide +kernel
theorem dX6_takePass_89 : decode cX6_takePass 89 = .ok (.iload_n 2, 1) := by decide +kernel
theorem dX6_takePass_90 : decode cX6_takePass 90 = .ok (.iaload, 1) := by decide +kernel
theorem dX6_takePass_91 : decode cX6_takePass 91 = .ok (.iastore, 1) := by decide +kernel
theorem dX6_takePass_92 : decode cX6_takePass 92 = .ok (.aload_n 0, 1) := by decide +kernel
theorem dX6_takePass_93 : decode cX6_takePass 93 = .ok (.getfield 17, 3) := by decide +kernel
theorem dX6_takePass_96 : decode cX6_takePass 96 = .ok (.iconst 2, 1) := by decide +kernel
theorem dX6_takePass_97 : decode cX6_takePass 97 = .ok (.aaload, 1) := by decide +kernel
theorem dX6_takePass_98 : decode cX6_takePass 98 = .ok (.iload_n 3, 1) := by decide +kernel
theorem dX6_takePass_99 : decode cX6_takePass 99 = .ok (.aload_n 1, 1) := by decide +kernel
theorem dX6_takePass_100 : decode cX6_takePass 100 = .ok (.getfield 68, 3) := by decide +kernel
theorem dX6_takePass_103 : decode cX6_takePass 103 = .ok (.iload_n 2, 1) := by decide +kernel
theorem dX6_takePass_104 : decode cX6_takePass 104 = .ok (.iaload, 1) := by decide +kernel
theorem dX6_takePass_105 : decode cX6_takePass 105 = .ok (.iastore, 1) := by decide +kernel
theorem dX6_takePass_106 : decode cX6_takePass 106 = .ok (.aload_n 0, 1) := by decide +kernel
theorem dX6_takePass_107 : decode cX6_takePass 107 = .ok (.getfield 17, 3) := by decide +kernel
theorem dX6_takePass_110 : decode cX6_takePass 110 = .ok (.iconst 3, 1) := by decide +kernel
theorem dX6_takePass_111 : decode cX6_takePass 111 = .ok (.aaload, 1) := by decide +kernel
theorem dX6_takePass_112 : decode cX6_takePass 112 = .ok (.iload_n 3, 1) := by decide +kernel
theorem dX6_takePass_113 : decode cX6_takePass 113 = .ok (.aload_n 1, 1) := by decide +kernel
theorem dX6_takePass_114 : decode cX6_takePass 114 = .ok (.getfield 71, 3) := by decide +kernel
theorem dX6_takePass_117 : decode cX6_takePass 117 = .ok (.iload_n 2, 1) := by decide +kernel
theorem dX6_takePass_118 : decode cX6_takePass 118 = .ok (.iaload, 1) := by decide +kernel
theorem dX6_takePass_119 : decode cX6_takePass 119 = .ok (.sipush 20000, 3) := by decide +kernel
theorem dX6_takePass_122 : decode cX6_takePass 122 = .ok (.iadd, 1) := by decide +kernel
theorem dX6_takePass_123 : decode cX6_takePass 123 = .ok (.iastore, 1) := by decide +kernel
theorem dX6_takePass_124 : decode cX6_takePass 124 = .ok (.iinc 2 1, 3) := by decide +kernel
theorem dX6_takePass_127 : decode cX6_takePass 127 = .ok (.goto (-109), 3) := by decide +kernel
theorem dX6_takePass_130 : decode cX6_takePass 130 = .ok (.aload_n 0, 1) := by decide +kernel
theorem dX6_takePass_131 : decode cX6_takePass 131 = .ok (.dup, 1) := by decide +kernel
theorem dX6_takePass_132 : decode cX6_takePass 132 = .ok (.getfield 38, 3) := by decide +kernel
theorem dX6_takePass_135 : decode cX6_takePass 135 = .ok (.iconst 1, 1) := by decide +kernel
theorem dX6_takePass_136 : decode cX6_takePass 136 = .ok (.iadd, 1) := by decide +kernel
theorem dX6_takePass_137 : decode cX6_takePass 137 = .ok (.putfield 38, 3) := by decide +kernel
theorem dX6_takePass_140 : decode cX6_takePass 140 = .ok (.return_, 1) := by decide +kernel
set_option maxRecDepth 20000 in
theorem ggX6_takePass_X5_storeHeights : GoodIn wsX6_takePass wsX5_storeHeights := goodIn_r _ [16, 17, 18, 19, 20, 21, 22, 23, 24, 31, 32, 33, 34, 35, 36, 37, 38, 39, 40, 41, 42, 43, 44, 45, 46, 47, 48, 49, 50, 51, 52, 53, 54] rfl (by decide +kernel)
set_option maxRecDepth 20000 in
theorem gX6_takePass_X5_storeHeights : GoodIn wsX6_takePass (wsV RX6 51 RX5 yX5_storeHeights wsX5_storeHeights) := goodIn_app (goodIn_of _ (by decide +kernel)) ggX6_takePass_X5_storeHeights
set_option maxRecDepth 20000 in
theorem ggX6_takePass_X6_placeOf : GoodIn wsX6_takePass wsX6_placeOf := goodIn_r _ [24] rfl (by decide +kernel)
set_option maxRecDepth 20000 in
theorem gX6_takePass_X6_placeOf : GoodIn wsX6_takePass (va_wsS RX6 61 yX6_placeOf wsX6_placeOf) := goodIn_app (goodIn_of _ (by decide +kernel)) ggX6_takePass_X6_placeOf
set_option maxHeartbeats 4000000 in
set_option maxRecDepth 100000 in
theorem S_X6_takePass_6 (l : Launch) (D : va_G) (K : Nat → ClassId) (a : Nat → Nat) (G : gS) (hrg : (0 ≤ (G 6 1).toInt ∧ (G 6 1).toInt ≤ 5)) (psp : ((G 5 3).toInt ≤ 199)) (hI : xI G) (sz : Nat) : Kv l yX6_takePass wsX6_takePass 3 85 0 0 D [.ref (a 5), .ref (a 6)] (xW K a G) (tK K) sz (fun (G' : gS) => (xI G') ∧ (gu_un xcd [503, 504, 3800, 4000, 4100, 4200, 4300] G G') ∧ (pcT (G 18 0).toInt (G 6 1).toInt (G 45) (G 46) (G 47) (G 48) (G 6 12) (xPc G) (xPc G'))) (fun (G' : gS) => (xW K a G')) (fun _ => (tK K)) := by
  unfold Kv
  refine g_ofW (cc := cX6_takePass) (lv := [(0, .ref (a 5)), (1, .ref (a 6))]) (by decide) rfl (Nat.le_of_ble_eq_true rfl) rfl ?_
  intro p e s m args below meth c A Q hA hQ F hr hnm
  have hts := F.2.2.2.2.1
  have w_0 : (Cond.fieldLink RX6 20 "QuietCut$Piece" "shop" "LQuietCut$Shop;").before args s = true := hts _ (List.mem_of_getElem? (i := 4) rfl)
  have i_X6 : ∀ w ∈ u_ws RX6 TX6 5, w ∈ wsX6_takePass := fun _ h => List.mem_cons_of_mem _ (List.mem_append_left _ (List.mem_append_left _ (List.mem_append_right _ h)))
  have w_1 : (Cond.fieldLink RX6 47 "QuietCut$Shop" "numbers" "[I").before args s = true := hts _ (List.mem_of_getElem? (i := 5) rfl)
  have i_X7 : ∀ w ∈ u_ws RX7 TX7 4, w ∈ wsX6_takePass := fun _ h => List.mem_cons_of_mem _ (List.mem_append_right _ h)
  have w_2 : (Cond.fieldLink RX6 38 "QuietCut$Piece" "passes" "I").before args s = true := hts _ (List.mem_of_getElem? (i := 9) rfl)
  have w_3 : (Cond.fieldLink RX6 58 "QuietCut$Lathe" "ring" "I").before args s = true := hts _ (List.mem_of_getElem? (i := 6) rfl)
  have i_X5 : ∀ w ∈ u_ws RX5 TX5 20, w ∈ wsX6_takePass := fun _ h => List.mem_cons_of_mem _ (List.mem_append_left _ (List.mem_append_right _ h))
  have w_4 : (Cond.fieldLink RX6 65 "QuietCut$Lathe" "leftTurn" "[I").before args s = true := hts _ (List.mem_of_getElem? (i := 7) rfl)
  have w_5 : (Cond.fieldLink RX6 17 "QuietCut$Piece" "left" "[[I").before args s = true := hts _ (List.mem_of_getElem? (i := 8) rfl)
  have w_6 : (Cond.fieldLink RX6 68 "QuietCut$Lathe" "leftTooth" "[I").before args s = true := hts _ (List.mem_of_getElem? (i := 10) rfl)
  have w_7 : (Cond.fieldLink RX6 71 "QuietCut$Lathe" "leftX" "[I").before args s = true := hts _ (List.mem_of_getElem? (i := 11) rfl)
  have w_8 : (Cond.fieldLink RX6 9 "QuietCut$Piece" "heights" "[I").before args s = true := hts _ (List.mem_of_getElem? (i := 1) rfl)
  have w_9 : (Cond.fieldLink RX6 57 "QuietCut$Lathe" "wear" "I").before args s = true := hts _ (List.mem_of_getElem? (i := 2) rfl)
  have w_10 : (Cond.fieldLink RX6 34 "QuietCut$Piece" "wear" "I").before args s = true := hts _ (List.mem_of_getElem? (i := 3) rfl)
  have b1 : (4 : Int) ≤ (G 18 0).toInt ∧ (G 18 0).toInt ≤ 16 := hI 18 0
  have b2 : (0 : Int) ≤ (G 5 3).toInt ∧ (G 5 3).toInt ≤ 200 := hI 5 3
  have J_18 : ∀ (fuel : Nat) (x18_2 : Int32) (Gj18 : gS), (2147483647 - x18_2.toInt).toNat < fuel → (0 ≤ x18_2.toInt ∧ x18_2.toInt ≤ 16) → (xI Gj18) → (gu_un xcd [503, 3800, 4000, 4100, 4200, 4300] G Gj18) → (tkR (G 6 1).toInt x18_2.toInt (G 46) (G 47) (G 48) (G 5 3) (G 40) (G 41) (G 42) (G 43) (Gj18 40) (Gj18 41) (Gj18 42) (Gj18 43)) → (∀ q : Nat, Gj18 38 q = sHr (G 38) (G 45) (G 6 1).toInt (G 18 0).toInt q) → ((x18_2.toInt ≤ (G 18 0).toInt)) → (Gj18 5 2 = G 6 12) → gG p l e (gR 3 0 0 85) s m args below meth c D A 4 Q 0 0 (xW K a Gj18) (tK K) [(0, .ref (a 5)), (1, .ref (a 6)), (2, .int x18_2)] 18 [] := by
    intro fuel
    induction fuel with
    | zero => intro x18_2 Gj18 hm; exact absurd hm (Nat.not_lt_zero _)
    | succ fuel_18 ih_18 =>
      intro x18_2 Gj18 hm_18 h18_2 jI18 jU18 tk shr il we
      refine g_iload_n F 2 dX6_takePass_18 rfl rfl ?_
      refine g_aload_n F 0 dX6_takePass_19 rfl rfl ?_
      refine xg_5_0 F i_X6 w_0 dX6_takePass_20 ?_
      refine xg_2_0 F i_X7 w_1 dX6_takePass_23 ?_
      refine g_iconst F 0 dX6_takePass_26 (by decide) ?_
      refine u1_iald F 18 0 xc_18 rfl 0 rfl (by decide) (by decide) dX6_takePass_27 (G 18 0) (jU18 18 0 (by decide)) ?_
      refine v_icmp_ge F 130 dX6_takePass_28 (by decide) x18_2.toInt (G 18 0).toInt rfl rfl (fun c3 => ?_) (fun c3 => ?_)
      · refine g_aload_n F 0 dX6_takePass_130 rfl rfl ?_
        refine g_dup F dX6_takePass_131 rfl ?_
        refine xg_5_3 F i_X6 w_2 dX6_takePass_132 (G 5 3) (jU18 5 3 (by decide)) ?_
        refine g_iconst F 1 dX6_takePass_135 (by decide) ?_
        refine g_iadd F dX6_takePass_136 ?_
        have ps9 : (((G 5 3) + 1) : Int32).toInt = (G 5 3).toInt + 1 := ti_add rfl rfl (by omega) (by omega)
        refine xp_5_3 F i_X6 w_2 dX6_takePass_137 ?_
        exact u_vret F hA hQ hr (gu_up Gj18 5 3 ((G 5 3) + 1)) (⟨(gu_I.up (j := 5) (k := 3) (v := ((G 5 3) + 1)) jI18 (show (0 : Int) ≤ Int32.toInt ((G 5 3) + 1) by omega) (show Int32.toInt ((G 5 3) + 1) ≤ 200 by omega)), (gu_un.up (j := 5) (k := 3) (v := ((G 5 3) + 1)) (gu_un.tr gu_un.rf (gu_un.su jU18 rfl)) (show (504 : Nat) ∈ ([503, 504, 3800, 4000, 4100, 4200, 4300] : List Nat) by decide)), (pcT.mk (by omega) shr (by have h9 := tk; rw [show x18_2.toInt = (G 18 0).toInt by omega] at h9; exact h9) ((show (gu_up Gj18 5 3 ((G 5 3) + 1)) 5 2 = Gj18 5 2 from (show gu_un xcd [504] Gj18 (gu_up Gj18 5 3 ((G 5 3) + 1)) from (gu_un.up (j := 5) (k := 3) (v := ((G 5 3) + 1)) gu_un.rf (show (504 : Nat) ∈ ([504] : List Nat) by decide))) 5 2 (by decide)).trans we) rfl)⟩) rfl rfl dX6_takePass_140
      · refine g_iload_n F 2 dX6_takePass_31 rfl rfl ?_
        refine g_bipush F 16 dX6_takePass_32 (by decide) ?_
        refine v_icmp_ge F 130 dX6_takePass_34 (by decide) x18_2.toInt 16 rfl rfl (fun c4 => absurd c4 (by omega)) (fun c4 => ?_)
        refine g_aload_n F 1 dX6_takePass_37 rfl rfl ?_
        refine xg_6_1 F i_X5 w_3 dX6_takePass_38 (G 6 1) (jU18 6 1 (by decide)) ?_
        refine g_iload_n F 2 dX6_takePass_41 rfl rfl ?_
        refine u_call0 (k := 0) (n := 0) (As := [.int (G 6 1), .int x18_2]) (st := []) F (fun sz => S_X6_placeOf_b5_b15 l D (G 6 1) (G 6 1).toInt x18_2 x18_2.toInt rfl (by omega) rfl (by omega) sz) (va_cwS 2 hts gX6_takePass_X6_placeOf rfl rfl rfl (by decide +kernel) ⟨Nat.le_of_ble_eq_true rfl, Nat.le_of_ble_eq_true rfl⟩) rfl (Nat.le_of_ble_eq_true rfl) ⟨Nat.zero_le _, Nat.zero_le _⟩ dX6_takePass_42 (fun r5 _ hw6 => ?_)
        have rg8 := hw6.1
        have rg9 := hw6.2
        clear hw6
        refine g_istore_n F [(3, .int r5), (0, .ref (a 5)), (1, .ref (a 6)), (2, .int x18_2)] dX6_takePass_45 rfl (by decide) rfl ?_
        refine g_aload_n F 2 dX6_takePass_46 rfl rfl ?_
        refine xg_6_9 F i_X5 w_4 dX6_takePass_47 ?_
        refine g_iload_n F 3 dX6_takePass_50 rfl rfl ?_
        refine u1_iald F 46 0 xc_46 rfl x18_2.toInt rfl (by omega) (by omega) dX6_takePass_51 ((G 46) (x18_2.toInt).toNat) (congrFun ((show Gj18 46 = G 46 from funext fun k_ => jU18 46 k_ (show (4600 : Nat) ∉ ([503, 3800, 4000, 4100, 4200, 4300] : List Nat) by decide))) _) ?_
        refine g_iconst F (-1) dX6_takePass_52 (by decide) ?_
        refine v_icmp_eq F 124 dX6_takePass_53 (by decide) ((G 46) (x18_2.toInt).toNat).toInt (-1) rfl rfl (fun c10 => ?_) (fun c10 => ?_)
        · refine u_iinc F (fun v_ => [(2, .int v_), (3, .int r5), (0, .ref (a 5)), (1, .ref (a 6))]) dX6_takePass_124 (j := 3) rfl x18_2.toInt 1 rfl rfl (by omega) (by omega) (by decide) (fun _ => rfl) (fun y11 ey11 => ?_)
          refine g_goto F 18 dX6_takePass_127 (by decide) ?_
          refine g_locals [(0, .ref (a 5)), (1, .ref (a 6)), (2, .int y11)] [2, 3, 0] rfl ?_
          exact ih_18 y11 Gj18 (by omega) (by have h9 := ti_rng y11; omega) jI18 (gu_un.tr gu_un.rf (gu_un.su jU18 rfl)) (by first | exact tkR.no (n := x18_2.toInt) tk (by omega) (by omega) (by omega) (by omega) | (exfalso; omega)) (fun q => (congrFun (rfl : Gj18 38 = Gj18 38) q).trans (shr q)) (by have e9_18_0 : Gj18 18 0 = (G 18 0) := jU18 18 0 (by decide); (try simp only [e9_18_0, true_and, and_true]) <;> (first | omega | (simp only [Int32.reduceToInt, true_and, and_true, ne_eq, not_true_eq_false, false_and, or_false, false_or, true_or, or_true, false_implies] <;> omega))) ((rfl : Gj18 5 2 = Gj18 5 2).trans we)
        · refine g_iload_n F 0 dX6_takePass_56 rfl rfl ?_
          refine v_if_lt F 124 dX6_takePass_57 (by decide) r5.toInt rfl (fun c12 => absurd c12 (by omega)) (fun c12 => ?_)
          refine g_iload_n F 0 dX6_takePass_60 rfl rfl ?_
          refine g_bipush F 96 dX6_takePass_61 (by decide) ?_
          refine v_icmp_ge F 124 dX6_takePass_63 (by decide) r5.toInt 96 rfl rfl (fun c13 => absurd c13 (by omega)) (fun c13 => ?_)
          refine g_aload_n F 1 dX6_takePass_66 rfl rfl ?_
          refine xg_5_4 F i_X6 w_5 dX6_takePass_67 ?_
          refine g_iconst F 0 dX6_takePass_70 (by decide) ?_
          refine g_aald (b := a 40) F 39 1 xc_39 rfl (ti_in (show Int32.toInt 0 = 0 from rfl) (by decide) (by decide)) (by rw [show Int32.toNatClampNeg 0 = 0 from congrArg Int.toNat (show Int32.toInt 0 = 0 from rfl)]; rfl) dX6_takePass_71 ?_
          refine g_iload_n F 0 dX6_takePass_72 rfl rfl ?_
          refine g_aload_n F 1 dX6_takePass_73 rfl rfl ?_
          refine xg_5_3 F i_X6 w_2 dX6_takePass_74 (G 5 3) (jU18 5 3 (by decide)) ?_
          refine u_iast F 40 0 xc_40 rfl r5.toInt rfl (by omega) (by omega) (xW K a (gu_up Gj18 40 (r5.toInt).toNat (G 5 3))) (xs_40 _) dX6_takePass_77 ?_
          refine g_aload_n F 1 dX6_takePass_78 rfl rfl ?_
          refine xg_5_4 F i_X6 w_5 dX6_takePass_79 ?_
          refine g_iconst F 1 dX6_takePass_82 (by decide) ?_
          refine g_aald (b := a 41) F 39 1 xc_39 rfl (ti_in (show Int32.toInt 1 = 1 from rfl) (by decide) (by decide)) (by rw [show Int32.toNatClampNeg 1 = 1 from congrArg Int.toNat (show Int32.toInt 1 = 1 from rfl)]; rfl) dX6_takePass_83 ?_
          refine g_iload_n F 0 dX6_takePass_84 rfl rfl ?_
          refine g_aload_n F 2 dX6_takePass_85 rfl rfl ?_
          refine xg_6_9 F i_X5 w_4 dX6_takePass_86 ?_
          refine g_iload_n F 3 dX6_takePass_89 rfl rfl ?_
          refine u1_iald F 46 0 xc_46 rfl x18_2.toInt rfl (by omega) (by omega) dX6_takePass_90 ((G 46) (x18_2.toInt).toNat) (congrFun ((show Gj18 46 = G 46 from funext fun k_ => jU18 46 k_ (show (4600 : Nat) ∉ ([503, 3800, 4000, 4100, 4200, 4300] : List Nat) by decide))) _) ?_
          refine u_iast F 41 0 xc_41 rfl r5.toInt rfl (by omega) (by omega) (xW K a (gu_up (gu_up Gj18 40 (r5.toInt).toNat (G 5 3)) 41 (r5.toInt).toNat ((G 46) (x18_2.toInt).toNat))) (xs_41 _) dX6_takePass_91 ?_
          refine g_aload_n F 1 dX6_takePass_92 rfl rfl ?_
          refine xg_5_4 F i_X6 w_5 dX6_takePass_93 ?_
          refine g_iconst F 2 dX6_takePass_96 (by decide) ?_
          refine g_aald (b := a 42) F 39 1 xc_39 rfl (ti_in (show Int32.toInt 2 = 2 from rfl) (by decide) (by decide)) (by rw [show Int32.toNatClampNeg 2 = 2 from congrArg Int.toNat (show Int32.toInt 2 = 2 from rfl)]; rfl) dX6_takePass_97 ?_
          refine g_iload_n F 0 dX6_takePass_98 rfl rfl ?_
          refine g_aload_n F 2 dX6_takePass_99 rfl rfl ?_
          refine xg_6_10 F i_X5 w_6 dX6_takePass_100 ?_
          refine g_iload_n F 3 dX6_takePass_103 rfl rfl ?_
          refine u1_iald F 47 0 xc_47 rfl x18_2.toInt rfl (by omega) (by omega) dX6_takePass_104 ((G 47) (x18_2.toInt).toNat) (congrFun ((show Gj18 47 = G 47 from funext fun k_ => jU18 47 k_ (show (4700 : Nat) ∉ ([503, 3800, 4000, 4100, 4200, 4300] : List Nat) by decide))) _) ?_
          refine u_iast F 42 0 xc_42 rfl r5.toInt rfl (by omega) (by omega) (xW K a (gu_up (gu_up (gu_up Gj18 40 (r5.toInt).toNat (G 5 3)) 41 (r5.toInt).toNat ((G 46) (x18_2.toInt).toNat)) 42 (r5.toInt).toNat ((G 47) (x18_2.toInt).toNat))) (xs_42 _) dX6_takePass_105 ?_
          refine g_aload_n F 1 dX6_takePass_106 rfl rfl ?_
          refine xg_5_4 F i_X6 w_5 dX6_takePass_107 ?_
          refine g_iconst F 3 dX6_takePass_110 (by decide) ?_
          refine g_aald (b := a 43) F 39 1 xc_39 rfl (ti_in (show Int32.toInt 3 = 3 from rfl) (by decide) (by decide)) (by rw [show Int32.toNatClampNeg 3 = 3 from congrArg Int.toNat (show Int32.toInt 3 = 3 from rfl)]; rfl) dX6_takePass_111 ?_
          refine g_iload_n F 0 dX6_takePass_112 rfl rfl ?_
          refine g_aload_n F 2 dX6_takePass_113 rfl rfl ?_
          refine xg_6_11 F i_X5 w_7 dX6_takePass_114 ?_
          refine g_iload_n F 3 dX6_takePass_117 rfl rfl ?_
          refine u1_iald F 48 0 xc_48 rfl x18_2.toInt rfl (by omega) (by omega) dX6_takePass_118 ((G 48) (x18_2.toInt).toNat) (congrFun ((show Gj18 48 = G 48 from funext fun k_ => jU18 48 k_ (show (4800 : Nat) ∉ ([503, 3800, 4000, 4100, 4200, 4300] : List Nat) by decide))) _) ?_
          refine g_sipush F 20000 dX6_takePass_119 (by decide) ?_
          refine g_iadd F dX6_takePass_122 ?_
          refine u_iast F 43 0 xc_43 rfl r5.toInt rfl (by omega) (by omega) (xW K a (gu_up (gu_up (gu_up (gu_up Gj18 40 (r5.toInt).toNat (G 5 3)) 41 (r5.toInt).toNat ((G 46) (x18_2.toInt).toNat)) 42 (r5.toInt).toNat ((G 47) (x18_2.toInt).toNat)) 43 (r5.toInt).toNat (((G 48) (x18_2.toInt).toNat) + 20000))) (xs_43 _) dX6_takePass_123 ?_
          refine u_iinc F (fun v_ => [(2, .int v_), (3, .int r5), (0, .ref (a 5)), (1, .ref (a 6))]) dX6_takePass_124 (j := 3) rfl x18_2.toInt 1 rfl rfl (by omega) (by omega) (by decide) (fun _ => rfl) (fun y14 ey14 => ?_)
          refine g_goto F 18 dX6_takePass_127 (by decide) ?_
          refine g_locals [(0, .ref (a 5)), (1, .ref (a 6)), (2, .int y14)] [2, 3, 0] rfl ?_
          exact ih_18 y14 (gu_up (gu_up (gu_up (gu_up Gj18 40 (r5.toInt).toNat (G 5 3)) 41 (r5.toInt).toNat ((G 46) (x18_2.toInt).toNat)) 42 (r5.toInt).toNat ((G 47) (x18_2.toInt).toNat)) 43 (r5.toInt).toNat (((G 48) (x18_2.toInt).toNat) + 20000)) (by omega) (by have h9 := ti_rng y14; omega) (gu_I.up (j := 43) (k := (r5.toInt).toNat) (v := (((G 48) (x18_2.toInt).toNat) + 20000)) (gu_I.up (j := 42) (k := (r5.toInt).toNat) (v := ((G 47) (x18_2.toInt).toNat)) (gu_I.up (j := 41) (k := (r5.toInt).toNat) (v := ((G 46) (x18_2.toInt).toNat)) (gu_I.up (j := 40) (k := (r5.toInt).toNat) (v := (G 5 3)) jI18 (ti_rng _).1 (ti_rng _).2) (ti_rng _).1 (ti_rng _).2) (ti_rng _).1 (ti_rng _).2) (ti_rng _).1 (ti_rng _).2) (gu_un.up (j := 43) (k := (r5.toInt).toNat) (v := (((G 48) (x18_2.toInt).toNat) + 20000)) (gu_un.up (j := 42) (k := (r5.toInt).toNat) (v := ((G 47) (x18_2.toInt).toNat)) (gu_un.up (j := 41) (k := (r5.toInt).toNat) (v := ((G 46) (x18_2.toInt).toNat)) (gu_un.up (j := 40) (k := (r5.toInt).toNat) (v := (G 5 3)) (gu_un.tr gu_un.rf (gu_un.su jU18 rfl)) (show (4000 : Nat) ∈ ([503, 3800, 4000, 4100, 4200, 4300] : List Nat) by decide)) (show (4100 : Nat) ∈ ([503, 3800, 4000, 4100, 4200, 4300] : List Nat) by decide)) (show (4200 : Nat) ∈ ([503, 3800, 4000, 4100, 4200, 4300] : List Nat) by decide)) (show (4300 : Nat) ∈ ([503, 3800, 4000, 4100, 4200, 4300] : List Nat) by decide)) (tkR.yes (n := x18_2.toInt) (k := r5.toInt) tk (by omega) (by omega) (by omega) (by omega) rfl rfl rfl (show (gu_up (gu_up (gu_up (gu_up Gj18 40 (r5.toInt).toNat (G 5 3)) 41 (r5.toInt).toNat ((G 46) (x18_2.toInt).toNat)) 42 (r5.toInt).toNat ((G 47) (x18_2.toInt).toNat)) 43 (r5.toInt).toNat (((G 48) (x18_2.toInt).toNat) + 20000)) 40 = (upd (Gj18 40) (r5.toInt).toNat (G 5 3)) from rfl) (show (gu_up (gu_up (gu_up (gu_up Gj18 40 (r5.toInt).toNat (G 5 3)) 41 (r5.toInt).toNat ((G 46) (x18_2.toInt).toNat)) 42 (r5.toInt).toNat ((G 47) (x18_2.toInt).toNat)) 43 (r5.toInt).toNat (((G 48) (x18_2.toInt).toNat) + 20000)) 41 = (upd (Gj18 41) (r5.toInt).toNat ((G 46) (x18_2.toInt).toNat)) from rfl) (show (gu_up (gu_up (gu_up (gu_up Gj18 40 (r5.toInt).toNat (G 5 3)) 41 (r5.toInt).toNat ((G 46) (x18_2.toInt).toNat)) 42 (r5.toInt).toNat ((G 47) (x18_2.toInt).toNat)) 43 (r5.toInt).toNat (((G 48) (x18_2.toInt).toNat) + 20000)) 42 = (upd (Gj18 42) (r5.toInt).toNat ((G 47) (x18_2.toInt).toNat)) from rfl) (show (gu_up (gu_up (gu_up (gu_up Gj18 40 (r5.toInt).toNat (G 5 3)) 41 (r5.toInt).toNat ((G 46) (x18_2.toInt).toNat)) 42 (r5.toInt).toNat ((G 47) (x18_2.toInt).toNat)) 43 (r5.toInt).toNat (((G 48) (x18_2.toInt).toNat) + 20000)) 43 = (upd (Gj18 43) (r5.toInt).toNat (((G 48) (x18_2.toInt).toNat) + 20000)) from rfl) (by omega)) (fun q => (congrFun (show (gu_up (gu_up (gu_up (gu_up Gj18 40 (r5.toInt).toNat (G 5 3)) 41 (r5.toInt).toNat ((G 46) (x18_2.toInt).toNat)) 42 (r5.toInt).toNat ((G 47) (x18_2.toInt).toNat)) 43 (r5.toInt).toNat (((G 48) (x18_2.toInt).toNat) + 20000)) 38 = Gj18 38 from funext fun k_ => (show gu_un xcd [4000, 4100, 4200, 4300] Gj18 (gu_up (gu_up (gu_up (gu_up Gj18 40 (r5.toInt).toNat (G 5 3)) 41 (r5.toInt).toNat ((G 46) (x18_2.toInt).toNat)) 42 (r5.toInt).toNat ((G 47) (x18_2.toInt).toNat)) 43 (r5.toInt).toNat (((G 48) (x18_2.toInt).toNat) + 20000)) from (gu_un.up (j := 43) (k := (r5.toInt).toNat) (v := (((G 48) (x18_2.toInt).toNat) + 20000)) (gu_un.up (j := 42) (k := (r5.toInt).toNat) (v := ((G 47) (x18_2.toInt).toNat)) (gu_un.up (j := 41) (k := (r5.toInt).toNat) (v := ((G 46) (x18_2.toInt).toNat)) (gu_un.up (j := 40) (k := (r5.toInt).toNat) (v := (G 5 3)) gu_un.rf (show (4000 : Nat) ∈ ([4000, 4100, 4200, 4300] : List Nat) by decide)) (show (4100 : Nat) ∈ ([4000, 4100, 4200, 4300] : List Nat) by decide)) (show (4200 : Nat) ∈ ([4000, 4100, 4200, 4300] : List Nat) by decide)) (show (4300 : Nat) ∈ ([4000, 4100, 4200, 4300] : List Nat) by decide))) 38 k_ (by simp [xcd])) q).trans (shr q)) (by have e9_18_0 : (gu_up (gu_up (gu_up (gu_up Gj18 40 (r5.toInt).toNat (G 5 3)) 41 (r5.toInt).toNat ((G 46) (x18_2.toInt).toNat)) 42 (r5.toInt).toNat ((G 47) (x18_2.toInt).toNat)) 43 (r5.toInt).toNat (((G 48) (x18_2.toInt).toNat) + 20000)) 18 0 = (G 18 0) := jU18 18 0 (by decide); (try simp only [e9_18_0, true_and, and_true]) <;> (first | omega | (simp only [Int32.reduceToInt, true_and, and_true, ne_eq, not_true_eq_false, false_and, or_false, false_or, true_or, or_true, false_implies] <;> omega))) ((show (gu_up (gu_up (gu_up (gu_up Gj18 40 (r5.toInt).toNat (G 5 3)) 41 (r5.toInt).toNat ((G 46) (x18_2.toInt).toNat)) 42 (r5.toInt).toNat ((G 47) (x18_2.toInt).toNat)) 43 (r5.toInt).toNat (((G 48) (x18_2.toInt).toNat) + 20000)) 5 2 = Gj18 5 2 from (show gu_un xcd [4000, 4100, 4200, 4300] Gj18 (gu_up (gu_up (gu_up (gu_up Gj18 40 (r5.toInt).toNat (G 5 3)) 41 (r5.toInt).toNat ((G 46) (x18_2.toInt).toNat)) 42 (r5.toInt).toNat ((G 47) (x18_2.toInt).toNat)) 43 (r5.toInt).toNat (((G 48) (x18_2.toInt).toNat) + 20000)) from (gu_un.up (j := 43) (k := (r5.toInt).toNat) (v := (((G 48) (x18_2.toInt).toNat) + 20000)) (gu_un.up (j := 42) (k := (r5.toInt).toNat) (v := ((G 47) (x18_2.toInt).toNat)) (gu_un.up (j := 41) (k := (r5.toInt).toNat) (v := ((G 46) (x18_2.toInt).toNat)) (gu_un.up (j := 40) (k := (r5.toInt).toNat) (v := (G 5 3)) gu_un.rf (show (4000 : Nat) ∈ ([4000, 4100, 4200, 4300] : List Nat) by decide)) (show (4100 : Nat) ∈ ([4000, 4100, 4200, 4300] : List Nat) by decide)) (show (4200 : Nat) ∈ ([4000, 4100, 4200, 4300] : List Nat) by decide)) (show (4300 : Nat) ∈ ([4000, 4100, 4200, 4300] : List Nat) by decide))) 5 2 (by decide)).trans we)
  refine g_aload_n F 1 dX6_takePass_0 rfl rfl ?_
  refine g_aload_n F 0 dX6_takePass_1 rfl rfl ?_
  refine xg_5_1 F i_X6 w_8 dX6_takePass_2 ?_
  refine u_callVv (k := 0) (n := 0) (b := a 6) (As := [.ref (a 38)]) (st := []) F (fun sz => S_X5_storeHeights_38 l D K a G  (by (first | omega | (simp only [Int32.reduceToInt, true_and, and_true, ne_eq, not_true_eq_false, false_and, or_false, false_or, true_or, or_true, false_implies] <;> omega))) hI sz) (cwV 1 hts gX6_takePass_X5_storeHeights rfl rfl rfl (by decide +kernel) ⟨Nat.le_of_ble_eq_true rfl, Nat.le_of_ble_eq_true rfl⟩) rfl 6 xc_6 rfl (Nat.le_of_ble_eq_true rfl) ⟨Nat.zero_le _, Nat.zero_le _⟩ dX6_takePass_5 (fun G17 hw16 => ?_)
  have hI18 : xI G17 := hw16.1
  have hU19 : gu_un xcd [3800] G G17 := hw16.2.1
  have hp20 := hw16.2.2
  have q21 : (∀ q : Nat, G17 38 q = sHr (G 38) (G 45) (G 6 1).toInt (G 18 0).toInt q) := hp20
  clear hp20 hw16
  refine g_aload_n F 0 dX6_takePass_8 rfl rfl ?_
  refine g_aload_n F 1 dX6_takePass_9 rfl rfl ?_
  refine xg_6_12 F i_X5 w_9 dX6_takePass_10 (G 6 12) (hU19 6 12 (by decide)) ?_
  have b22 : (0 : Int) ≤ (G 6 12).toInt ∧ (G 6 12).toInt ≤ 30000 := hI 6 12
  refine xp_5_2 F i_X6 w_10 dX6_takePass_13 ?_
  refine g_iconst F 0 dX6_takePass_16 (by decide) ?_
  refine g_istore_n F [(2, .int 0), (0, .ref (a 5)), (1, .ref (a 6))] dX6_takePass_17 rfl (by decide) rfl ?_
  refine g_locals [(0, .ref (a 5)), (1, .ref (a 6)), (2, .int 0)] [1, 2, 0] rfl ?_
  exact J_18 _ 0 (gu_up G17 5 2 (G 6 12)) (Nat.lt_succ_self _) (by decide) (gu_I.up (j := 5) (k := 2) (v := (G 6 12)) hI18 (show (0 : Int) ≤ Int32.toInt (G 6 12) by omega) (show Int32.toInt (G 6 12) ≤ 30000 by omega)) (gu_un.up (j := 5) (k := 2) (v := (G 6 12)) (gu_un.tr gu_un.rf (gu_un.su hU19 rfl)) (show (503 : Nat) ∈ ([503, 3800, 4000, 4100, 4200, 4300] : List Nat) by decide)) (by rw [(show (gu_up G17 5 2 (G 6 12)) 40 = G 40 from funext fun k_ => (show gu_un xcd [503, 3800] G (gu_up G17 5 2 (G 6 12)) from (gu_un.up (j := 5) (k := 2) (v := (G 6 12)) (gu_un.tr gu_un.rf (gu_un.su hU19 rfl)) (show (503 : Nat) ∈ ([503, 3800] : List Nat) by decide))) 40 k_ (by simp [xcd])), (show (gu_up G17 5 2 (G 6 12)) 41 = G 41 from funext fun k_ => (show gu_un xcd [503, 3800] G (gu_up G17 5 2 (G 6 12)) from (gu_un.up (j := 5) (k := 2) (v := (G 6 12)) (gu_un.tr gu_un.rf (gu_un.su hU19 rfl)) (show (503 : Nat) ∈ ([503, 3800] : List Nat) by decide))) 41 k_ (by simp [xcd])), (show (gu_up G17 5 2 (G 6 12)) 42 = G 42 from funext fun k_ => (show gu_un xcd [503, 3800] G (gu_up G17 5 2 (G 6 12)) from (gu_un.up (j := 5) (k := 2) (v := (G 6 12)) (gu_un.tr gu_un.rf (gu_un.su hU19 rfl)) (show (503 : Nat) ∈ ([503, 3800] : List Nat) by decide))) 42 k_ (by simp [xcd])), (show (gu_up G17 5 2 (G 6 12)) 43 = G 43 from funext fun k_ => (show gu_un xcd [503, 3800] G (gu_up G17 5 2 (G 6 12)) from (gu_un.up (j := 5) (k := 2) (v := (G 6 12)) (gu_un.tr gu_un.rf (gu_un.su hU19 rfl)) (show (503 : Nat) ∈ ([503, 3800] : List Nat) by decide))) 43 k_ (by simp [xcd]))]; exact tkR.at0 rfl) (fun q => (congrFun (show (gu_up G17 5 2 (G 6 12)) 38 = G17 38 from funext fun k_ => (show gu_un xcd [503] G17 (gu_up G17 5 2 (G 6 12)) from (gu_un.up (j := 5) (k := 2) (v := (G 6 12)) gu_un.rf (show (503 : Nat) ∈ ([503] : List Nat) by decide))) 38 k_ (by simp [xcd])) q).trans (q21 q)) (by have e9_18_0 : (gu_up G17 5 2 (G 6 12)) 18 0 = (G 18 0) := hU19 18 0 (by decide); (try simp only [e9_18_0, true_and, and_true]) <;> (first | omega | (simp only [Int32.reduceToInt, true_and, and_true, ne_eq, not_true_eq_false, false_and, or_false, false_or, true_or, or_true, false_implies] <;> omega))) ((rfl))
