theorem dX7_hasRing_0 : decode cX7_hasRing 0 = .ok (.iload_n 1, 1) := by decide +kernel
theorem dX7_hasRing_1 : decode cX7_hasRing 1 = .ok (.ifCond .lt 17, 3) := by decide +kernel
theorem dX7_hasRing_4 : decode cX7_hasRing 4 = .ok (.iload_n 1, 1) := by decide +kernel
theorem dX7_hasRing_5 : decode cX7_hasRing 5 = .ok (.aload_n 0, 1) := by decide +kernel
theorem dX7_hasRing_6 : decode cX7_hasRing 6 = .ok (.getfield 11, 3) := by decide +kernel
theorem dX7_hasRing_9 : decode cX7_hasRing 9 = .ok (.iconst 1, 1) := by decide +kernel
theorem dX7_hasRing_10 : decode cX7_hasRing 10 = .ok (.iaload, 1) := by decide +kernel
theorem dX7_hasRing_11 : decode cX7_hasRing 11 = .ok (.if_icmp .ge 7, 3) := by decide +kernel
theorem dX7_hasRing_14 : decode cX7_hasRing 14 = .ok (.iconst 1, 1) := by decide +kernel
theorem dX7_hasRing_15 : decode cX7_hasRing 15 = .ok (.goto 4, 3) := by decide +kernel
theorem dX7_hasRing_18 : decode cX7_hasRing 18 = .ok (.iconst 0, 1) := by decide +kernel
theorem dX7_hasRing_19 : decode cX7_hasRing 19 = .ok (.ireturn, 1) := by decide +kernel
set_option maxHeartbeats 4000000 in
set_option maxRecDepth 100000 in
theorem S_X7_hasRing_2 (l : Launch) (D : va_G) (K : Nat → ClassId) (a : Nat → Nat) (G : gS) (p0 : Int32) (s0 : Int) (e0 : p0.toInt = s0) (hI : xI G) (sz : Nat) : Ki l yX7_hasRing wsX7_hasRing 1 40 0 0 D [.ref (a 2), .int p0] (xW K a G) (tK K) sz (fun (r : Int32) (_ : Unit) => ((r = 1 ∧ (0 ≤ s0 ∧ s0 < (G 18 1).toInt)) ∨ (r = 0 ∧ (s0 < 0 ∨ (G 18 1).toInt ≤ s0)))) (fun (_ : Unit) => (xW K a G)) (fun _ => (tK K)) := by
  unfold Ki
  refine g_ofW (cc := cX7_hasRing) (lv := [(0, .ref (a 2)), (1, .int p0)]) (by decide) rfl (Nat.le_of_ble_eq_true rfl) rfl ?_
  intro p e s m args below meth c A Q hA hQ F hr hnm
  have hts := F.2.2.2.2.1
  have w_0 : (Cond.fieldLink RX7 11 "QuietCut$Shop" "numbers" "[I").before args s = true := hts _ (List.mem_of_getElem? (i := 1) rfl)
  have i_X7 : ∀ w ∈ u_ws RX7 TX7 4, w ∈ wsX7_hasRing := fun _ h => List.mem_cons_of_mem _ (List.mem_append_right _ h)
  have rg0 : -2147483648 ≤ s0 ∧ s0 ≤ 2147483647 := e0 ▸ ti_rng p0
  refine g_iload_n F 1 dX7_hasRing_0 rfl rfl ?_
  refine v_if_lt F 18 dX7_hasRing_1 (by decide) s0 e0 (fun c1 => ?_) (fun c1 => ?_)
  · refine g_iconst F 0 dX7_hasRing_18 (by decide) ?_
    exact u_zret F hA hQ hr rfl () ((Or.inr (⟨rfl, by first | trivial | omega⟩))) rfl rfl dX7_hasRing_19
  · refine g_iload_n F 1 dX7_hasRing_4 rfl rfl ?_
    refine g_aload_n F 0 dX7_hasRing_5 rfl rfl ?_
    refine xg_2_0 F i_X7 w_0 dX7_hasRing_6 ?_
    refine g_iconst F 1 dX7_hasRing_9 (by decide) ?_
    refine u1_iald F 18 0 xc_18 rfl 1 rfl (by decide) (by decide) dX7_hasRing_10 (G 18 1) (rfl) ?_
    have b2 : (1 : Int) ≤ (G 18 1).toInt ∧ (G 18 1).toInt ≤ 6 := hI 18 1
    refine v_icmp_ge F 18 dX7_hasRing_11 (by decide) s0 (G 18 1).toInt e0 rfl (fun c3 => ?_) (fun c3 => ?_)
    · refine g_iconst F 0 dX7_hasRing_18 (by decide) ?_
      exact u_zret F hA hQ hr rfl () ((Or.inr (⟨rfl, by first | trivial | omega⟩))) rfl rfl dX7_hasRing_19
    · refine g_iconst F 1 dX7_hasRing_14 (by decide) ?_
      refine g_goto F 19 dX7_hasRing_15 (by decide) ?_
      exact u_zret F hA hQ hr rfl () ((Or.inl (⟨rfl, by first | trivial | omega⟩))) rfl rfl dX7_hasRing_19

theorem dX7_swayAt_0 : decode cX7_swayAt 0 = .ok (.iload_n 1, 1) := by decide +kernel
theorem dX7_swayAt_1 : decode cX7_swayAt 1 = .ok (.ifCond .lt 21, 3) := by decide +kernel
theorem dX7_swayAt_4 : decode cX7_swayAt 4 = .ok (.iload_n 1, 1) := by decide +kernel
theorem dX7_swayAt_5 : decode cX7_swayAt 5 = .ok (.bipush 6, 2) := by decide +kernel
theorem dX7_swayAt_7 : decode cX7_swayAt 7 = .ok (.if_icmp .ge 15, 3) := by decide +kernel
theorem dX7_swayAt_10 : decode cX7_swayAt 10 = .ok (.aload_n 0, 1) := by decide +kernel
theorem dX7_swayAt_11 : decode cX7_swayAt 11 = .ok (.getfield 11, 3) := by decide +kernel
theorem dX7_swayAt_14 : decode cX7_swayAt 14 = .ok (.bipush 30, 2) := by decide +kernel
theorem dX7_swayAt_16 : decode cX7_swayAt 16 = .ok (.iload_n 1, 1) := by decide +kernel
theorem dX7_swayAt_17 : decode cX7_swayAt 17 = .ok (.iadd, 1) := by decide +kernel
theorem dX7_swayAt_18 : decode cX7_swayAt 18 = .ok (.iaload, 1) := by decide +kernel
theorem dX7_swayAt_19 : decode cX7_swayAt 19 = .ok (.goto 4, 3) := by decide +kernel
theorem dX7_swayAt_22 : decode cX7_swayAt 22 = .ok (.iconst 0, 1) := by decide +kernel
theorem dX7_swayAt_23 : decode cX7_swayAt 23 = .ok (.ireturn, 1) := by decide +kernel
set_option maxHeartbeats 4000000 in
set_option maxRecDepth 100000 in
theorem S_X7_swayAt_2 (l : Launch) (D : va_G) (K : Nat → ClassId) (a : Nat → Nat) (G : gS) (p0 : Int32) (s0 : Int) (e0 : p0.toInt = s0) (h0 : 0 ≤ s0 ∧ s0 ≤ 5) (hI : xI G) (sz : Nat) : Ki l yX7_swayAt wsX7_swayAt 1 40 0 0 D [.ref (a 2), .int p0] (xW K a G) (tK K) sz (fun (r : Int32) (_ : Unit) => (0 ≤ r.toInt ∧ r.toInt ≤ 9) ∧ ((r.toInt = ((G 18) (30 + (s0).toNat)).toInt))) (fun (_ : Unit) => (xW K a G)) (fun _ => (tK K)) := by
  unfold Ki
  refine g_ofW (cc := cX7_swayAt) (lv := [(0, .ref (a 2)), (1, .int p0)]) (by decide) rfl (Nat.le_of_ble_eq_true rfl) rfl ?_
  intro p e s m args below meth c A Q hA hQ F hr hnm
  have hts := F.2.2.2.2.1
  have w_0 : (Cond.fieldLink RX7 11 "QuietCut$Shop" "numbers" "[I").before args s = true := hts _ (List.mem_of_getElem? (i := 1) rfl)
  have i_X7 : ∀ w ∈ u_ws RX7 TX7 4, w ∈ wsX7_swayAt := fun _ h => List.mem_cons_of_mem _ (List.mem_append_right _ h)
  refine g_iload_n F 1 dX7_swayAt_0 rfl rfl ?_
  refine v_if_lt F 22 dX7_swayAt_1 (by decide) s0 e0 (fun c1 => absurd c1 (by omega)) (fun c1 => ?_)
  refine g_iload_n F 1 dX7_swayAt_4 rfl rfl ?_
  refine g_bipush F 6 dX7_swayAt_5 (by decide) ?_
  refine v_icmp_ge F 22 dX7_swayAt_7 (by decide) s0 6 e0 rfl (fun c2 => absurd c2 (by omega)) (fun c2 => ?_)
  refine g_aload_n F 0 dX7_swayAt_10 rfl rfl ?_
  refine xg_2_0 F i_X7 w_0 dX7_swayAt_11 ?_
  refine g_bipush F 30 dX7_swayAt_14 (by decide) ?_
  refine g_iload_n F 1 dX7_swayAt_16 rfl rfl ?_
  refine u_iadd F dX7_swayAt_17 30 s0 rfl e0 (by omega) (by omega) (fun y3 ey3 => ?_)
  refine u1_iald F 18 0 xc_18 rfl y3.toInt rfl (by omega) (by omega) dX7_swayAt_18 ((G 18) ((30 + s0)).toNat) (by rw [show y3.toInt = (30 + s0) by omega] <;> rfl) ?_
  have sb9 : (0 : Int) ≤ ((G 18) ((30 + s0)).toNat).toInt ∧ ((G 18) ((30 + s0)).toNat).toInt ≤ 9 := by rcases (show s0 = 0 ∨ s0 = 1 ∨ s0 = 2 ∨ s0 = 3 ∨ s0 = 4 ∨ s0 = 5 by omega) with h9 | h9 | h9 | h9 | h9 | h9 <;> (rw [h9]; first | exact hI 18 30 | exact hI 18 31 | exact hI 18 32 | exact hI 18 33 | exact hI 18 34 | exact hI 18 35)
  refine g_goto F 23 dX7_swayAt_19 (by decide) ?_
  exact u_iret F hA hQ hr () (⟨(by have h9 := ti_rng ((G 18) ((30 + s0)).toNat); omega), (by rw [show 30 + (s0).toNat = (30 + s0).toNat by omega])⟩) rfl rfl dX7_swayAt_23

theorem dX7_swayBehind_0 : decode cX7_swayBehind 0 = .ok (.iload_n 1, 1) := by decide +kernel
theorem dX7_swayBehind_1 : decode cX7_swayBehind 1 = .ok (.iconst 1, 1) := by decide +kernel
theorem dX7_swayBehind_2 : decode cX7_swayBehind 2 = .ok (.iadd, 1) := by decide +kernel
theorem dX7_swayBehind_3 : decode cX7_swayBehind 3 = .ok (.aload_n 0, 1) := by decide +kernel
theorem dX7_swayBehind_4 : decode cX7_swayBehind 4 = .ok (.getfield 11, 3) := by decide +kernel
theorem dX7_swayBehind_7 : decode cX7_swayBehind 7 = .ok (.bipush 11, 2) := by decide +kernel
theorem dX7_swayBehind_9 : decode cX7_swayBehind 9 = .ok (.iaload, 1) := by decide +kernel
theorem dX7_swayBehind_10 : decode cX7_swayBehind 10 = .ok (.if_icmp .ge 9, 3) := by decide +kernel
theorem dX7_swayBehind_13 : decode cX7_swayBehind 13 = .ok (.iload_n 1, 1) := by decide +kernel
theorem dX7_swayBehind_14 : decode cX7_swayBehind 14 = .ok (.iconst 1, 1) := by decide +kernel
theorem dX7_swayBehind_15 : decode cX7_swayBehind 15 = .ok (.iadd, 1) := by decide +kernel
theorem dX7_swayBehind_16 : decode cX7_swayBehind 16 = .ok (.goto 4, 3) := by decide +kernel
theorem dX7_swayBehind_19 : decode cX7_swayBehind 19 = .ok (.iconst 0, 1) := by decide +kernel
theorem dX7_swayBehind_20 : decode cX7_swayBehind 20 = .ok (.ireturn, 1) := by decide +kernel
set_option maxHeartbeats 4000000 in
set_option maxRecDepth 100000 in
theorem S_X7_swayBehind_2 (l : Launch) (D : va_G) (K : Nat → ClassId) (a : Nat → Nat) (G : gS) (p0 : Int32) (s0 : Int) (e0 : p0.toInt = s0) (h0 : 0 ≤ s0 ∧ s0 ≤ 5) (hI : xI G) (sz : Nat) : Ki l yX7_swayBehind wsX7_swayBehind 1 40 0 0 D [.ref (a 2), .int p0] (xW K a G) (tK K) sz (fun (r : Int32) (_ : Unit) => (0 ≤ r.toInt ∧ r.toInt ≤ 5) ∧ ((r.toInt = if s0 + 1 < (G 18 11).toInt then s0 + 1 else 0))) (fun (_ : Unit) => (xW K a G)) (fun _ => (tK K)) := by
  unfold Ki
  refine g_ofW (cc := cX7_swayBehind) (lv := [(0, .ref (a 2)), (1, .int p0)]) (by decide) rfl (Nat.le_of_ble_eq_true rfl) rfl ?_
  intro p e s m args below meth c A Q hA hQ F hr hnm
  have hts := F.2.2.2.2.1
  have w_0 : (Cond.fieldLink RX7 11 "QuietCut$Shop" "numbers" "[I").before args s = true := hts _ (List.mem_of_getElem? (i := 1) rfl)
  have i_X7 : ∀ w ∈ u_ws RX7 TX7 4, w ∈ wsX7_swayBehind := fun _ h => List.mem_cons_of_mem _ (List.mem_append_right _ h)
  have b1 : (1 : Int) ≤ (G 18 11).toInt ∧ (G 18 11).toInt ≤ 6 := hI 18 11
  refine g_iload_n F 1 dX7_swayBehind_0 rfl rfl ?_
  refine g_iconst F 1 dX7_swayBehind_1 (by decide) ?_
  refine u_iadd F dX7_swayBehind_2 s0 1 e0 rfl (by omega) (by omega) (fun y2 ey2 => ?_)
  refine g_aload_n F 0 dX7_swayBehind_3 rfl rfl ?_
  refine xg_2_0 F i_X7 w_0 dX7_swayBehind_4 ?_
  refine g_bipush F 11 dX7_swayBehind_7 (by decide) ?_
  refine u1_iald F 18 0 xc_18 rfl 11 rfl (by decide) (by decide) dX7_swayBehind_9 (G 18 11) (rfl) ?_
  refine v_icmp_ge F 19 dX7_swayBehind_10 (by decide) y2.toInt (G 18 11).toInt rfl rfl (fun c3 => ?_) (fun c3 => ?_)
  · refine g_iconst F 0 dX7_swayBehind_19 (by decide) ?_
    exact u_iret F hA hQ hr () (⟨(by first | decide | omega), (by split <;> first | omega | rfl | (exfalso; omega))⟩) rfl rfl dX7_swayBehind_20
  · refine g_iload_n F 1 dX7_swayBehind_13 rfl rfl ?_
    refine g_iconst F 1 dX7_swayBehind_14 (by decide) ?_
    refine u_iadd F dX7_swayBehind_15 s0 1 e0 rfl (by omega) (by omega) (fun y4 ey4 => ?_)
    refine g_goto F 20 dX7_swayBehind_16 (by decide) ?_
    exact u_iret F hA hQ hr () (⟨(by first | decide | omega), (by split <;> first | omega | rfl | (exfalso; omega))⟩) rfl rfl dX7_swayBehind_20

theorem dX7_passTime_0 : decode cX7_passTime 0 = .ok (.aload_n 0, 1) := by decide +kernel
theorem dX7_passTime_1 : decode cX7_passTime 1 = .ok (.getfield 11, 3) := by decide +kernel
theorem dX7_passTime_4 : decode cX7_passTime 4 = .ok (.iconst 0, 1) := by decide +kernel
theorem dX7_passTime_5 : decode cX7_passTime 5 = .ok (.iaload, 1) := by decide +kernel
theorem dX7_passTime_6 : decode cX7_passTime 6 = .ok (.aload_n 0, 1) := by decide +kernel
theorem dX7_passTime_7 : decode cX7_passTime 7 = .ok (.getfield 11, 3) := by decide +kernel
theorem dX7_passTime_10 : decode cX7_passTime 10 = .ok (.bipush 9, 2) := by decide +kernel
theorem dX7_passTime_12 : decode cX7_passTime 12 = .ok (.iaload, 1) := by decide +kernel
theorem dX7_passTime_13 : decode cX7_passTime 13 = .ok (.imul, 1) := by decide +kernel
theorem dX7_passTime_14 : decode cX7_passTime 14 = .ok (.istore_n 2, 1) := by decide +kernel
theorem dX7_passTime_15 : decode cX7_passTime 15 = .ok (.iload_n 2, 1) := by decide +kernel
theorem dX7_passTime_16 : decode cX7_passTime 16 = .ok (.iload_n 1, 1) := by decide +kernel
theorem dX7_passTime_17 : decode cX7_passTime 17 = .ok (.imul, 1) := by decide +kernel
theorem dX7_passTime_18 : decode cX7_passTime 18 = .ok (.istore_n 3, 1) := by decide +kernel
theorem dX7_passTime_19 : decode cX7_passTime 19 = .ok (.iconst 0, 1) := by decide +kernel
theorem dX7_passTime_20 : decode cX7_passTime 20 = .ok (.istore 4, 2) := by decide +kernel
theorem dX7_passTime_22 : decode cX7_passTime 22 = .ok (.iconst 0, 1) := by decide +kernel
theorem dX7_passTime_23 : decode cX7_passTime 23 = .ok (.istore 5, 2) := by decide +kernel
theorem dX7_passTime_25 : decode cX7_passTime 25 = .ok (.iload 5, 2) := by decide +kernel
theorem dX7_passTime_27 : decode cX7_passTime 27 = .ok (.iload_n 2, 1) := by decide +kernel
theorem dX7_passTime_28 : decode cX7_passTime 28 = .ok (.if_icmp .ge 26, 3) := by decide +kernel
theorem dX7_passTime_31 : decode cX7_passTime 31 = .ok (.iload_n 3, 1) := by decide +kernel
theorem dX7_passTime_32 : decode cX7_passTime 32 = .ok (.aload_n 0, 1) := by decide +kernel
theorem dX7_passTime_33 : decode cX7_passTime 33 = .ok (.iload 4, 2) := by decide +kernel
theorem dX7_passTime_35 : decode cX7_passTime 35 = .ok (.invokevirtual 56, 3) := by decide +kernel
theorem dX7_passTime_38 : decode cX7_passTime 38 = .ok (.iadd, 1) := by decide +kernel
theorem dX7_passTime_39 : decode cX7_passTime 39 = .ok (.istore_n 3, 1) := by decide +kernel
theorem dX7_passTime_40 : decode cX7_passTime 40 = .ok (.aload_n 0, 1) := by decide +kernel
theorem dX7_passTime_41 : decode cX7_passTime 41 = .ok (.iload 4, 2) := by decide +kernel
theorem dX7_passTime_43 : decode cX7_passTime 43 = .ok (.invokevirtual 60, 3) := by decide +kernel
theorem dX7_passTime_46 : decode cX7_passTime 46 = .ok (.istore 4, 2) := by decide +kernel
theorem dX7_passTime_48 : decode cX7_passTime 48 = .ok (.iinc 5 1, 3) := by decide +kernel
theorem dX7_passTime_51 : decode cX7_passTime 51 = .ok (.goto (-26), 3) := by decide +kernel
theorem dX7_passTime_54 : decode cX7_passTime 54 = .ok (.iload_n 3, 1) := by decide +kernel
theorem dX7_passTime_55 : decode cX7_passTime 55 = .ok (.ireturn, 1) := by decide +kernel
set_option maxRecDepth 20000 in
theorem ggX7_passTime_X7_swayAt : GoodIn wsX7_passTime wsX7_swayAt := goodIn_r _ [6, 1, 11, 12, 13, 14] rfl (by decide +kernel)
set_option maxRecDepth 20000 in
theorem gX7_passTime_X7_swayAt : GoodIn wsX7_passTime (wsV RX7 56 RX7 yX7_swayAt wsX7_swayAt) := goodIn_app (goodIn_of _ (by decide +kernel)) ggX7_passTime_X7_swayAt
set_option maxRecDepth 20000 in
theorem ggX7_passTime_X7_swayBehind : GoodIn wsX7_passTime wsX7_swayBehind := goodIn_r _ [10, 1, 11, 12, 13, 14] rfl (by decide +kernel)
set_option maxRecDepth 20000 in
theorem gX7_passTime_X7_swayBehind : GoodIn wsX7_passTime (wsV RX7 60 RX7 yX7_swayBehind wsX7_swayBehind) := goodIn_app (goodIn_of _ (by decide +kernel)) ggX7_passTime_X7_swayBehind
set_option maxHeartbeats 4000000 in
set_option maxRecDepth 100000 in
theorem S_X7_passTime_2 (l : Launch) (D : va_G) (K : Nat → ClassId) (a : Nat → Nat) (G : gS) (p0 : Int32) (s0 : Int) (e0 : p0.toInt = s0) (hI : xI G) (sz : Nat) : Ki l yX7_passTime wsX7_passTime 2 61 0 0 D [.ref (a 2), .int p0] (xW K a G) (tK K) sz (fun (r : Int32) (_ : Unit) => True) (fun (_ : Unit) => (xW K a G)) (fun _ => (tK K)) := by
  unfold Ki
  refine g_ofW (cc := cX7_passTime) (lv := [(0, .ref (a 2)), (1, .int p0)]) (by decide) rfl (Nat.le_of_ble_eq_true rfl) rfl ?_
  intro p e s m args below meth c A Q hA hQ F hr hnm
  have hts := F.2.2.2.2.1
  have w_0 : (Cond.fieldLink RX7 11 "QuietCut$Shop" "numbers" "[I").before args s = true := hts _ (List.mem_of_getElem? (i := 1) rfl)
  have i_X7 : ∀ w ∈ u_ws RX7 TX7 4, w ∈ wsX7_passTime := fun _ h => List.mem_cons_of_mem _ (List.mem_append_right _ h)
  have rg0 : -2147483648 ≤ s0 ∧ s0 ≤ 2147483647 := e0 ▸ ti_rng p0
  have J_25 : ∀ (fuel : Nat) (x25_2 : Int32) (x25_3 : Int32) (x25_4 : Int32) (x25_5 : Int32), (2147483647 - x25_5.toInt).toNat < fuel → (0 ≤ x25_2.toInt ∧ x25_2.toInt ≤ 192) → (0 ≤ x25_4.toInt ∧ x25_4.toInt ≤ 5) → (0 ≤ x25_5.toInt ∧ x25_5.toInt ≤ 192) → gG p l e (gR 2 0 0 61) s m args below meth c D A 6 Q 0 0 (xW K a G) (tK K) [(0, .ref (a 2)), (2, .int x25_2), (3, .int x25_3), (4, .int x25_4), (5, .int x25_5)] 25 [] := by
    intro fuel
    induction fuel with
    | zero => intro x25_2 x25_3 x25_4 x25_5 hm; exact absurd hm (Nat.not_lt_zero _)
    | succ fuel_25 ih_25 =>
      intro x25_2 x25_3 x25_4 x25_5 hm_25 h25_2 h25_4 h25_5
      refine g_iload F 4 dX7_passTime_25 rfl ?_
      refine g_iload_n F 1 dX7_passTime_27 rfl rfl ?_
      refine v_icmp_ge F 54 dX7_passTime_28 (by decide) x25_5.toInt x25_2.toInt rfl rfl (fun c1 => ?_) (fun c1 => ?_)
      · refine g_iload_n F 2 dX7_passTime_54 rfl rfl ?_
        exact u_iret F hA hQ hr () (trivial) rfl rfl dX7_passTime_55
      · refine g_iload_n F 2 dX7_passTime_31 rfl rfl ?_
        refine g_aload_n F 0 dX7_passTime_32 rfl rfl ?_
        refine g_iload F 3 dX7_passTime_33 rfl ?_
        refine u_callVi (k := 0) (n := 0) (b := a 2) (As := [.int x25_4]) (st := [.int x25_3]) F (fun sz => S_X7_swayAt_2 l D K a G x25_4 x25_4.toInt rfl (by omega) hI sz) (cwV 1 hts gX7_passTime_X7_swayAt rfl rfl rfl (by decide +kernel) ⟨Nat.le_of_ble_eq_true rfl, Nat.le_of_ble_eq_true rfl⟩) rfl 2 xc_2 rfl (Nat.le_of_ble_eq_true rfl) ⟨Nat.zero_le _, Nat.zero_le _⟩ dX7_passTime_35 (fun r2 _ hw3 => ?_)
        have q5 : (r2.toInt = ((G 18) (30 + (x25_4.toInt).toNat)).toInt) := hw3.2
        have rg6 := hw3.1
        clear hw3
        refine u0_iadd F dX7_passTime_38 (fun y7 => ?_)
        refine g_istore_n F [(3, .int y7), (0, .ref (a 2)), (2, .int x25_2), (4, .int x25_4), (5, .int x25_5)] dX7_passTime_39 rfl (by decide) rfl ?_
        refine g_aload_n F 1 dX7_passTime_40 rfl rfl ?_
        refine g_iload F 3 dX7_passTime_41 rfl ?_
        refine u_callVi (k := 0) (n := 0) (b := a 2) (As := [.int x25_4]) (st := []) F (fun sz => S_X7_swayBehind_2 l D K a G x25_4 x25_4.toInt rfl (by omega) hI sz) (cwV 1 hts gX7_passTime_X7_swayBehind rfl rfl rfl (by decide +kernel) ⟨Nat.le_of_ble_eq_true rfl, Nat.le_of_ble_eq_true rfl⟩) rfl 2 xc_2 rfl (Nat.le_of_ble_eq_true rfl) ⟨Nat.zero_le _, Nat.zero_le _⟩ dX7_passTime_43 (fun r8 _ hw9 => ?_)
        have b11 : (1 : Int) ≤ (G 18 11).toInt ∧ (G 18 11).toInt ≤ 6 := hI 18 11
        have q12 : (r8.toInt = if x25_4.toInt + 1 < (G 18 11).toInt then x25_4.toInt + 1 else 0) := hw9.2
        have rg13 := hw9.1
        clear hw9
        refine g_istore F [(4, .int r8), (3, .int y7), (0, .ref (a 2)), (2, .int x25_2), (5, .int x25_5)] dX7_passTime_46 (by decide) rfl ?_
        refine u_iinc F (fun v_ => [(5, .int v_), (4, .int r8), (3, .int y7), (0, .ref (a 2)), (2, .int x25_2)]) dX7_passTime_48 (j := 4) rfl x25_5.toInt 1 rfl rfl (by omega) (by omega) (by decide) (fun _ => rfl) (fun y14 ey14 => ?_)
        refine g_goto F 25 dX7_passTime_51 (by decide) ?_
        refine g_locals [(0, .ref (a 2)), (2, .int x25_2), (3, .int y7), (4, .int r8), (5, .int y14)] [3, 4, 2, 1, 0] rfl ?_
        exact ih_25 x25_2 y7 r8 y14 (by omega) (by have h9 := ti_rng x25_2; omega) (by have h9 := ti_rng r8; omega) (by have h9 := ti_rng y14; omega)
  refine g_aload_n F 0 dX7_passTime_0 rfl rfl ?_
  refine xg_2_0 F i_X7 w_0 dX7_passTime_1 ?_
  refine g_iconst F 0 dX7_passTime_4 (by decide) ?_
  refine u1_iald F 18 0 xc_18 rfl 0 rfl (by decide) (by decide) dX7_passTime_5 (G 18 0) (rfl) ?_
  refine g_aload_n F 0 dX7_passTime_6 rfl rfl ?_
  refine xg_2_0 F i_X7 w_0 dX7_passTime_7 ?_
  refine g_bipush F 9 dX7_passTime_10 (by decide) ?_
  refine u1_iald F 18 0 xc_18 rfl 9 rfl (by decide) (by decide) dX7_passTime_12 (G 18 9) (rfl) ?_
  have b16 : (4 : Int) ≤ (G 18 0).toInt ∧ (G 18 0).toInt ≤ 16 := hI 18 0
  have b17 : (1 : Int) ≤ (G 18 9).toInt ∧ (G 18 9).toInt ≤ 12 := hI 18 9
  refine u_imulb F dX7_passTime_13 (G 18 0).toInt (G 18 9).toInt rfl rfl 16 12 (by omega) (by omega) (by omega) (by omega) (by decide) (fun y15 ey15 => ?_)
  refine g_istore_n F [(2, .int y15), (0, .ref (a 2)), (1, .int p0)] dX7_passTime_14 rfl (by decide) rfl ?_
  refine g_iload_n F 0 dX7_passTime_15 rfl rfl ?_
  refine g_iload_n F 2 dX7_passTime_16 rfl rfl ?_
  refine u0_imul F dX7_passTime_17 (fun y18 => ?_)
  refine g_istore_n F [(3, .int y18), (2, .int y15), (0, .ref (a 2)), (1, .int p0)] dX7_passTime_18 rfl (by decide) rfl ?_
  refine g_iconst F 0 dX7_passTime_19 (by decide) ?_
  refine g_istore F [(4, .int 0), (3, .int y18), (2, .int y15), (0, .ref (a 2)), (1, .int p0)] dX7_passTime_20 (by decide) rfl ?_
  refine g_iconst F 0 dX7_passTime_22 (by decide) ?_
  refine g_istore F [(5, .int 0), (4, .int 0), (3, .int y18), (2, .int y15), (0, .ref (a 2)), (1, .int p0)] dX7_passTime_23 (by decide) rfl ?_
  refine g_locals [(0, .ref (a 2)), (2, .int y15), (3, .int y18), (4, .int 0), (5, .int 0)] [4, 3, 2, 1, 0] rfl ?_
  exact J_25 _ y15 y18 0 0 (Nat.lt_succ_self _) (by have h9 := ti_rng y15; omega) (by decide) (by decide)

theorem dX7_numberTold_0 : decode cX7_numberTold 0 = .ok (.iload_n 1, 1) := by decide +kernel
theorem dX7_numberTold_1 : decode cX7_numberTold 1 = .ok (.ifCond .lt 16, 3) := by decide +kernel
theorem dX7_numberTold_4 : decode cX7_numberTold 4 = .ok (.iload_n 1, 1) := by decide +kernel
theorem dX7_numberTold_5 : decode cX7_numberTold 5 = .ok (.bipush 11, 2) := by decide +kernel
theorem dX7_numberTold_7 : decode cX7_numberTold 7 = .ok (.if_icmp .gt 10, 3) := by decide +kernel
theorem dX7_numberTold_10 : decode cX7_numberTold 10 = .ok (.aload_n 0, 1) := by decide +kernel
theorem dX7_numberTold_11 : decode cX7_numberTold 11 = .ok (.getfield 11, 3) := by decide +kernel
theorem dX7_numberTold_14 : decode cX7_numberTold 14 = .ok (.iload_n 1, 1) := by decide +kernel
theorem dX7_numberTold_15 : decode cX7_numberTold 15 = .ok (.iaload, 1) := by decide +kernel
theorem dX7_numberTold_16 : decode cX7_numberTold 16 = .ok (.ireturn, 1) := by decide +kernel
theorem dX7_numberTold_17 : decode cX7_numberTold 17 = .ok (.iload_n 1, 1) := by decide +kernel
theorem dX7_numberTold_18 : decode cX7_numberTold 18 = .ok (.bipush 20, 2) := by decide +kernel
theorem dX7_numberTold_20 : decode cX7_numberTold 20 = .ok (.if_icmp .lt 30, 3) := by decide +kernel
theorem dX7_numberTold_23 : decode cX7_numberTold 23 = .ok (.iload_n 1, 1) := by decide +kernel
theorem dX7_numberTold_24 : decode cX7_numberTold 24 = .ok (.bipush 20, 2) := by decide +kernel
theorem dX7_numberTold_26 : decode cX7_numberTold 26 = .ok (.aload_n 0, 1) := by decide +kernel
theorem dX7_numberTold_27 : decode cX7_numberTold 27 = .ok (.getfield 11, 3) := by decide +kernel
theorem dX7_numberTold_30 : decode cX7_numberTold 30 = .ok (.bipush 10, 2) := by decide +kernel
theorem dX7_numberTold_32 : decode cX7_numberTold 32 = .ok (.iaload, 1) := by decide +kernel
theorem dX7_numberTold_33 : decode cX7_numberTold 33 = .ok (.iadd, 1) := by decide +kernel
theorem dX7_numberTold_34 : decode cX7_numberTold 34 = .ok (.if_icmp .ge 16, 3) := by decide +kernel
theorem dX7_numberTold_37 : decode cX7_numberTold 37 = .ok (.iload_n 1, 1) := by decide +kernel
theorem dX7_numberTold_38 : decode cX7_numberTold 38 = .ok (.bipush 24, 2) := by decide +kernel
theorem dX7_numberTold_40 : decode cX7_numberTold 40 = .ok (.if_icmp .ge 10, 3) := by decide +kernel
theorem dX7_numberTold_43 : decode cX7_numberTold 43 = .ok (.aload_n 0, 1) := by decide +kernel
theorem dX7_numberTold_44 : decode cX7_numberTold 44 = .ok (.getfield 11, 3) := by decide +kernel
theorem dX7_numberTold_47 : decode cX7_numberTold 47 = .ok (.iload_n 1, 1) := by decide +kernel
theorem dX7_numberTold_48 : decode cX7_numberTold 48 = .ok (.iaload, 1) := by decide +kernel
theorem dX7_numberTold_49 : decode cX7_numberTold 49 = .ok (.ireturn, 1) := by decide +kernel
theorem dX7_numberTold_50 : decode cX7_numberTold 50 = .ok (.iload_n 1, 1) := by decide +kernel
theorem dX7_numberTold_51 : decode cX7_numberTold 51 = .ok (.bipush 30, 2) := by decide +kernel
theorem dX7_numberTold_53 : decode cX7_numberTold 53 = .ok (.if_icmp .lt 30, 3) := by decide +kernel
theorem dX7_numberTold_56 : decode cX7_numberTold 56 = .ok (.iload_n 1, 1) := by decide +kernel
theorem dX7_numberTold_57 : decode cX7_numberTold 57 = .ok (.bipush 30, 2) := by decide +kernel
theorem dX7_numberTold_59 : decode cX7_numberTold 59 = .ok (.aload_n 0, 1) := by decide +kernel
theorem dX7_numberTold_60 : decode cX7_numberTold 60 = .ok (.getfield 11, 3) := by decide +kernel
theorem dX7_numberTold_63 : decode cX7_numberTold 63 = .ok (.bipush 11, 2) := by decide +kernel
theorem dX7_numberTold_65 : decode cX7_numberTold 65 = .ok (.iaload, 1) := by decide +kernel
theorem dX7_numberTold_66 : decode cX7_numberTold 66 = .ok (.iadd, 1) := by decide +kernel
theorem dX7_numberTold_67 : decode cX7_numberTold 67 = .ok (.if_icmp .ge 16, 3) := by decide +kernel
theorem dX7_numberTold_70 : decode cX7_numberTold 70 = .ok (.iload_n 1, 1) := by decide +kernel
theorem dX7_numberTold_71 : decode cX7_numberTold 71 = .ok (.bipush 36, 2) := by decide +kernel
theorem dX7_numberTold_73 : decode cX7_numberTold 73 = .ok (.if_icmp .ge 10, 3) := by decide +kernel
theorem dX7_numberTold_76 : decode cX7_numberTold 76 = .ok (.aload_n 0, 1) := by decide +kernel
theorem dX7_numberTold_77 : decode cX7_numberTold 77 = .ok (.getfield 11, 3) := by decide +kernel
theorem dX7_numberTold_80 : decode cX7_numberTold 80 = .ok (.iload_n 1, 1) := by decide +kernel
theorem dX7_numberTold_81 : decode cX7_numberTold 81 = .ok (.iaload, 1) := by decide +kernel
theorem dX7_numberTold_82 : decode cX7_numberTold 82 = .ok (.ireturn, 1) := by decide +kernel
theorem dX7_numberTold_83 : decode cX7_numberTold 83 = .ok (.iconst (-1), 1) := by decide +kernel
theorem dX7_numberTold_84 : decode cX7_numberTold 84 = .ok (.ireturn, 1) := by decide +kernel
set_option maxHeartbeats 4000000 in
set_option maxRecDepth 100000 in
theorem S_X7_numberTold_2 (l : Launch) (D : va_G) (K : Nat → ClassId) (a : Nat → Nat) (G : gS) (p0 : Int32) (s0 : Int) (e0 : p0.toInt = s0) (hI : xI G) (sz : Nat) : Ki l yX7_numberTold wsX7_numberTold 1 40 0 0 D [.ref (a 2), .int p0] (xW K a G) (tK K) sz (fun (r : Int32) (_ : Unit) => (((0 ≤ s0 ∧ s0 ≤ 11 ∧ r.toInt = ((G 18) (s0).toNat).toInt) ∨ (20 ≤ s0 ∧ s0 < 20 + (G 18 10).toInt ∧ s0 < 24 ∧ r.toInt = ((G 18) (s0).toNat).toInt) ∨ (30 ≤ s0 ∧ s0 < 30 + (G 18 11).toInt ∧ s0 < 36 ∧ r.toInt = ((G 18) (s0).toNat).toInt) ∨ (r.toInt = -1 ∧ (s0 < 0 ∨ 11 < s0) ∧ (s0 < 20 ∨ 20 + (G 18 10).toInt ≤ s0 ∨ 24 ≤ s0) ∧ (s0 < 30 ∨ 30 + (G 18 11).toInt ≤ s0 ∨ 36 ≤ s0))))) (fun (_ : Unit) => (xW K a G)) (fun _ => (tK K)) := by
  unfold Ki
  refine g_ofW (cc := cX7_numberTold) (lv := [(0, .ref (a 2)), (1, .int p0)]) (by decide) rfl (Nat.le_of_ble_eq_true rfl) rfl ?_
  intro p e s m args below meth c A Q hA hQ F hr hnm
  have hts := F.2.2.2.2.1
  have w_0 : (Cond.fieldLink RX7 11 "QuietCut$Shop" "numbers" "[I").before args s = true := hts _ (List.mem_of_getElem? (i := 1) rfl)
  have i_X7 : ∀ w ∈ u_ws RX7 TX7 4, w ∈ wsX7_numberTold := fun _ h => List.mem_cons_of_mem _ (List.mem_append_right _ h)
  have rg0 : -2147483648 ≤ s0 ∧ s0 ≤ 2147483647 := e0 ▸ ti_rng p0
  have b1 : (1 : Int) ≤ (G 18 10).toInt ∧ (G 18 10).toInt ≤ 4 := hI 18 10
  have b2 : (1 : Int) ≤ (G 18 11).toInt ∧ (G 18 11).toInt ≤ 6 := hI 18 11
  refine g_iload_n F 1 dX7_numberTold_0 rfl rfl ?_
  refine v_if_lt F 17 dX7_numberTold_1 (by decide) s0 e0 (fun c3 => ?_) (fun c3 => ?_)
  · refine g_iload_n F 1 dX7_numberTold_17 rfl rfl ?_
    refine g_bipush F 20 dX7_numberTold_18 (by decide) ?_
    refine v_icmp_lt F 50 dX7_numberTold_20 (by decide) s0 20 e0 rfl (fun c4 => ?_) (fun c4 => absurd c4 (by omega))
    refine g_iload_n F 1 dX7_numberTold_50 rfl rfl ?_
    refine g_bipush F 30 dX7_numberTold_51 (by decide) ?_
    refine v_icmp_lt F 83 dX7_numberTold_53 (by decide) s0 30 e0 rfl (fun c5 => ?_) (fun c5 => absurd c5 (by omega))
    refine g_iconst F (-1) dX7_numberTold_83 (by decide) ?_
    exact u_iret F hA hQ hr () ((by show ((0 ≤ s0 ∧ s0 ≤ 11 ∧ (-1) = ((G 18) (s0).toNat).toInt) ∨ (20 ≤ s0 ∧ s0 < 20 + (G 18 10).toInt ∧ s0 < 24 ∧ (-1) = ((G 18) (s0).toNat).toInt) ∨ (30 ≤ s0 ∧ s0 < 30 + (G 18 11).toInt ∧ s0 < 36 ∧ (-1) = ((G 18) (s0).toNat).toInt) ∨ ((-1) = -1 ∧ (s0 < 0 ∨ 11 < s0) ∧ (s0 < 20 ∨ 20 + (G 18 10).toInt ≤ s0 ∨ 24 ≤ s0) ∧ (s0 < 30 ∨ 30 + (G 18 11).toInt ≤ s0 ∨ 36 ≤ s0))); (first | omega | (simp only [Int32.reduceToInt, true_and, and_true, ne_eq, not_true_eq_false, false_and, or_false, false_or, true_or, or_true, false_implies] <;> omega)))) rfl rfl dX7_numberTold_84
  · refine g_iload_n F 1 dX7_numberTold_4 rfl rfl ?_
    refine g_bipush F 11 dX7_numberTold_5 (by decide) ?_
    refine v_icmp_gt F 17 dX7_numberTold_7 (by decide) s0 11 e0 rfl (fun c6 => ?_) (fun c6 => ?_)
    · refine g_iload_n F 1 dX7_numberTold_17 rfl rfl ?_
      refine g_bipush F 20 dX7_numberTold_18 (by decide) ?_
      refine v_icmp_lt F 50 dX7_numberTold_20 (by decide) s0 20 e0 rfl (fun c7 => ?_) (fun c7 => ?_)
      · refine g_iload_n F 1 dX7_numberTold_50 rfl rfl ?_
        refine g_bipush F 30 dX7_numberTold_51 (by decide) ?_
        refine v_icmp_lt F 83 dX7_numberTold_53 (by decide) s0 30 e0 rfl (fun c8 => ?_) (fun c8 => absurd c8 (by omega))
        refine g_iconst F (-1) dX7_numberTold_83 (by decide) ?_
        exact u_iret F hA hQ hr () ((by show ((0 ≤ s0 ∧ s0 ≤ 11 ∧ (-1) = ((G 18) (s0).toNat).toInt) ∨ (20 ≤ s0 ∧ s0 < 20 + (G 18 10).toInt ∧ s0 < 24 ∧ (-1) = ((G 18) (s0).toNat).toInt) ∨ (30 ≤ s0 ∧ s0 < 30 + (G 18 11).toInt ∧ s0 < 36 ∧ (-1) = ((G 18) (s0).toNat).toInt) ∨ ((-1) = -1 ∧ (s0 < 0 ∨ 11 < s0) ∧ (s0 < 20 ∨ 20 + (G 18 10).toInt ≤ s0 ∨ 24 ≤ s0) ∧ (s0 < 30 ∨ 30 + (G 18 11).toInt ≤ s0 ∨ 36 ≤ s0))); (first | omega | (simp only [Int32.reduceToInt, true_and, and_true, ne_eq, not_true_eq_false, false_and, or_false, false_or, true_or, or_true, false_implies] <;> omega)))) rfl rfl dX7_numberTold_84
      · refine g_iload_n F 1 dX7_numberTold_23 rfl rfl ?_
        refine g_bipush F 20 dX7_numberTold_24 (by decide) ?_
        refine g_aload_n F 0 dX7_numberTold_26 rfl rfl ?_
        refine xg_2_0 F i_X7 w_0 dX7_numberTold_27 ?_
        refine g_bipush F 10 dX7_numberTold_30 (by decide) ?_
        refine u1_iald F 18 0 xc_18 rfl 10 rfl (by decide) (by decide) dX7_numberTold_32 (G 18 10) (rfl) ?_
        refine u_iadd F dX7_numberTold_33 20 (G 18 10).toInt rfl rfl (by omega) (by omega) (fun y9 ey9 => ?_)
        refine v_icmp_ge F 50 dX7_numberTold_34 (by decide) s0 y9.toInt e0 rfl (fun c10 => ?_) (fun c10 => ?_)
        · refine g_iload_n F 1 dX7_numberTold_50 rfl rfl ?_
          refine g_bipush F 30 dX7_numberTold_51 (by decide) ?_
          refine v_icmp_lt F 83 dX7_numberTold_53 (by decide) s0 30 e0 rfl (fun c11 => ?_) (fun c11 => ?_)
          · refine g_iconst F (-1) dX7_numberTold_83 (by decide) ?_
            exact u_iret F hA hQ hr () ((by show ((0 ≤ s0 ∧ s0 ≤ 11 ∧ (-1) = ((G 18) (s0).toNat).toInt) ∨ (20 ≤ s0 ∧ s0 < 20 + (G 18 10).toInt ∧ s0 < 24 ∧ (-1) = ((G 18) (s0).toNat).toInt) ∨ (30 ≤ s0 ∧ s0 < 30 + (G 18 11).toInt ∧ s0 < 36 ∧ (-1) = ((G 18) (s0).toNat).toInt) ∨ ((-1) = -1 ∧ (s0 < 0 ∨ 11 < s0) ∧ (s0 < 20 ∨ 20 + (G 18 10).toInt ≤ s0 ∨ 24 ≤ s0) ∧ (s0 < 30 ∨ 30 + (G 18 11).toInt ≤ s0 ∨ 36 ≤ s0))); (first | omega | (simp only [Int32.reduceToInt, true_and, and_true, ne_eq, not_true_eq_false, false_and, or_false, false_or, true_or, or_true, false_implies] <;> omega)))) rfl rfl dX7_numberTold_84
          · refine g_iload_n F 1 dX7_numberTold_56 rfl rfl ?_
            refine g_bipush F 30 dX7_numberTold_57 (by decide) ?_
            refine g_aload_n F 0 dX7_numberTold_59 rfl rfl ?_
            refine xg_2_0 F i_X7 w_0 dX7_numberTold_60 ?_
            refine g_bipush F 11 dX7_numberTold_63 (by decide) ?_
            refine u1_iald F 18 0 xc_18 rfl 11 rfl (by decide) (by decide) dX7_numberTold_65 (G 18 11) (rfl) ?_
            refine u_iadd F dX7_numberTold_66 30 (G 18 11).toInt rfl rfl (by omega) (by omega) (fun y12 ey12 => ?_)
            refine v_icmp_ge F 83 dX7_numberTold_67 (by decide) s0 y12.toInt e0 rfl (fun c13 => ?_) (fun c13 => ?_)
            · refine g_iconst F (-1) dX7_numberTold_83 (by decide) ?_
              exact u_iret F hA hQ hr () ((by show ((0 ≤ s0 ∧ s0 ≤ 11 ∧ (-1) = ((G 18) (s0).toNat).toInt) ∨ (20 ≤ s0 ∧ s0 < 20 + (G 18 10).toInt ∧ s0 < 24 ∧ (-1) = ((G 18) (s0).toNat).toInt) ∨ (30 ≤ s0 ∧ s0 < 30 + (G 18 11).toInt ∧ s0 < 36 ∧ (-1) = ((G 18) (s0).toNat).toInt) ∨ ((-1) = -1 ∧ (s0 < 0 ∨ 11 < s0) ∧ (s0 < 20 ∨ 20 + (G 18 10).toInt ≤ s0 ∨ 24 ≤ s0) ∧ (s0 < 30 ∨ 30 + (G 18 11).toInt ≤ s0 ∨ 36 ≤ s0))); (first | omega | (simp only [Int32.reduceToInt, true_and, and_true, ne_eq, not_true_eq_false, false_and, or_false, false_or, true_or, or_true, false_implies] <;> omega)))) rfl rfl dX7_numberTold_84
            · refine g_iload_n F 1 dX7_numberTold_70 rfl rfl ?_
              refine g_bipush F 36 dX7_numberTold_71 (by decide) ?_
              refine v_icmp_ge F 83 dX7_numberTold_73 (by decide) s0 36 e0 rfl (fun c14 => absurd c14 (by omega)) (fun c14 => ?_)
              refine g_aload_n F 0 dX7_numberTold_76 rfl rfl ?_
              refine xg_2_0 F i_X7 w_0 dX7_numberTold_77 ?_
              refine g_iload_n F 1 dX7_numberTold_80 rfl rfl ?_
              refine u1_iald F 18 0 xc_18 rfl s0 e0 (by omega) (by omega) dX7_numberTold_81 ((G 18) (s0).toNat) (rfl) ?_
              exact u_iret F hA hQ hr () ((by show ((0 ≤ s0 ∧ s0 ≤ 11 ∧ ((G 18) (s0).toNat).toInt = ((G 18) (s0).toNat).toInt) ∨ (20 ≤ s0 ∧ s0 < 20 + (G 18 10).toInt ∧ s0 < 24 ∧ ((G 18) (s0).toNat).toInt = ((G 18) (s0).toNat).toInt) ∨ (30 ≤ s0 ∧ s0 < 30 + (G 18 11).toInt ∧ s0 < 36 ∧ ((G 18) (s0).toNat).toInt = ((G 18) (s0).toNat).toInt) ∨ (((G 18) (s0).toNat).toInt = -1 ∧ (s0 < 0 ∨ 11 < s0) ∧ (s0 < 20 ∨ 20 + (G 18 10).toInt ≤ s0 ∨ 24 ≤ s0) ∧ (s0 < 30 ∨ 30 + (G 18 11).toInt ≤ s0 ∨ 36 ≤ s0))); (first | omega | (simp only [Int32.reduceToInt, true_and, and_true, ne_eq, not_true_eq_false, false_and, or_false, false_or, true_or, or_true, false_implies] <;> omega)))) rfl rfl dX7_numberTold_82
        · refine g_iload_n F 1 dX7_numberTold_37 rfl rfl ?_
          refine g_bipush F 24 dX7_numberTold_38 (by decide) ?_
          refine v_icmp_ge F 50 dX7_numberTold_40 (by decide) s0 24 e0 rfl (fun c15 => absurd c15 (by omega)) (fun c15 => ?_)
          refine g_aload_n F 0 dX7_numberTold_43 rfl rfl ?_
          refine xg_2_0 F i_X7 w_0 dX7_numberTold_44 ?_
          refine g_iload_n F 1 dX7_numberTold_47 rfl rfl ?_
          refine u1_iald F 18 0 xc_18 rfl s0 e0 (by omega) (by omega) dX7_numberTold_48 ((G 18) (s0).toNat) (rfl) ?_
          exact u_iret F hA hQ hr () ((by show ((0 ≤ s0 ∧ s0 ≤ 11 ∧ ((G 18) (s0).toNat).toInt = ((G 18) (s0).toNat).toInt) ∨ (20 ≤ s0 ∧ s0 < 20 + (G 18 10).toInt ∧ s0 < 24 ∧ ((G 18) (s0).toNat).toInt = ((G 18) (s0).toNat).toInt) ∨ (30 ≤ s0 ∧ s0 < 30 + (G 18 11).toInt ∧ s0 < 36 ∧ ((G 18) (s0).toNat).toInt = ((G 18) (s0).toNat).toInt) ∨ (((G 18) (s0).toNat).toInt = -1 ∧ (s0 < 0 ∨ 11 < s0) ∧ (s0 < 20 ∨ 20 + (G 18 10).toInt ≤ s0 ∨ 24 ≤ s0) ∧ (s0 < 30 ∨ 30 + (G 18 11).toInt ≤ s0 ∨ 36 ≤ s0))); (first | omega | (simp only [Int32.reduceToInt, true_and, and_true, ne_eq, not_true_eq_false, false_and, or_false, false_or, true_or, or_true, false_implies] <;> omega)))) rfl rfl dX7_numberTold_49
    · refine g_aload_n F 0 dX7_numberTold_10 rfl rfl ?_
      refine xg_2_0 F i_X7 w_0 dX7_numberTold_11 ?_
      refine g_iload_n F 1 dX7_numberTold_14 rfl rfl ?_
      refine u1_iald F 18 0 xc_18 rfl s0 e0 (by omega) (by omega) dX7_numberTold_15 ((G 18) (s0).toNat) (rfl) ?_
      exact u_iret F hA hQ hr () ((by show ((0 ≤ s0 ∧ s0 ≤ 11 ∧ ((G 18) (s0).toNat).toInt = ((G 18) (s0).toNat).toInt) ∨ (20 ≤ s0 ∧ s0 < 20 + (G 18 10).toInt ∧ s0 < 24 ∧ ((G 18) (s0).toNat).toInt = ((G 18) (s0).toNat).toInt) ∨ (30 ≤ s0 ∧ s0 < 30 + (G 18 11).toInt ∧ s0 < 36 ∧ ((G 18) (s0).toNat).toInt = ((G 18) (s0).toNat).toInt) ∨ (((G 18) (s0).toNat).toInt = -1 ∧ (s0 < 0 ∨ 11 < s0) ∧ (s0 < 20 ∨ 20 + (G 18 10).toInt ≤ s0 ∨ 24 ≤ s0) ∧ (s0 < 30 ∨ 30 + (G 18 11).toInt ≤ s0 ∨ 36 ≤ s0))); (first | omega | (simp only [Int32.reduceToInt, true_and, and_true, ne_eq, not_true_eq_false, false_and, or_false, false_or, true_or, or_true, false_implies] <;> omega)))) rfl rfl dX7_numberTold_16

theorem dX11_told_0 : decode cX11_told 0 = .ok (.aload_n 0, 1) := by decide +kernel
theorem dX11_told_1 : decode cX11_told 1 = .ok (.getfield 19, 3) := by decide +kernel
theorem dX11_told_4 : decode cX11_told 4 = .ok (.iload_n 1, 1) := by decide +kernel
theorem dX11_told_5 : decode cX11_told 5 = .ok (.invokevirtual 130, 3) := by decide +kernel
theorem dX11_told_8 : decode cX11_told 8 = .ok (.ireturn, 1) := by decide +kernel
set_option maxRecDepth 20000 in
theorem ggX11_told_X7_numberTold : GoodIn wsX11_told wsX7_numberTold := goodIn_r _ [6, 7, 22, 23, 24, 25] rfl (by decide +kernel)
set_option maxRecDepth 20000 in
theorem gX11_told_X7_numberTold : GoodIn wsX11_told (wsV RX11 130 RX7 yX7_numberTold wsX7_numberTold) := goodIn_app (goodIn_of _ (by decide +kernel)) ggX11_told_X7_numberTold
set_option maxHeartbeats 4000000 in
set_option maxRecDepth 100000 in
theorem S_X11_told (l : Launch) (D : va_G) (K : Nat → ClassId) (a : Nat → Nat) (G : gS) (p0 : Int32) (s0 : Int) (e0 : p0.toInt = s0) (hI : xI G) (sz : Nat) : Ki l yX11_told wsX11_told 2 61 0 0 D [.ref (a 0), .int p0] (xW K a G) (tK K) sz (fun (r : Int32) (_ : Unit) => (((0 ≤ s0 ∧ s0 ≤ 11 ∧ r.toInt = ((G 18) (s0).toNat).toInt) ∨ (20 ≤ s0 ∧ s0 < 20 + (G 18 10).toInt ∧ s0 < 24 ∧ r.toInt = ((G 18) (s0).toNat).toInt) ∨ (30 ≤ s0 ∧ s0 < 30 + (G 18 11).toInt ∧ s0 < 36 ∧ r.toInt = ((G 18) (s0).toNat).toInt) ∨ (r.toInt = -1 ∧ (s0 < 0 ∨ 11 < s0) ∧ (s0 < 20 ∨ 20 + (G 18 10).toInt ≤ s0 ∨ 24 ≤ s0) ∧ (s0 < 30 ∨ 30 + (G 18 11).toInt ≤ s0 ∨ 36 ≤ s0))))) (fun (_ : Unit) => (xW K a G)) (fun _ => (tK K)) := by
  unfold Ki
  refine g_ofW (cc := cX11_told) (lv := [(0, .ref (a 0)), (1, .int p0)]) (by decide) rfl (Nat.le_of_ble_eq_true rfl) rfl ?_
  intro p e s m args below meth c A Q hA hQ F hr hnm
  have hts := F.2.2.2.2.1
  have w_0 : (Cond.fieldLink RX11 19 "QuietCut" "shop" "LQuietCut$Shop;").before args s = true := hts _ (List.mem_of_getElem? (i := 1) rfl)
  have i_X11 : ∀ w ∈ u_ws RX11 TX11 14, w ∈ wsX11_told := fun _ h => List.mem_cons_of_mem _ (List.mem_append_left _ (List.mem_append_right _ h))
  have rg0 : -2147483648 ≤ s0 ∧ s0 ≤ 2147483647 := e0 ▸ ti_rng p0
  refine g_aload_n F 0 dX11_told_0 rfl rfl ?_
  refine xg_0_1 F i_X11 w_0 dX11_told_1 ?_
  refine g_iload_n F 1 dX11_told_4 rfl rfl ?_
  refine u_callVi (k := 0) (n := 0) (b := a 2) (As := [.int p0]) (st := []) F (fun sz => S_X7_numberTold_2 l D K a G p0 s0 e0 hI sz) (cwV 1 hts gX11_told_X7_numberTold rfl rfl rfl (by decide +kernel) ⟨Nat.le_of_ble_eq_true rfl, Nat.le_of_ble_eq_true rfl⟩) rfl 2 xc_2 rfl (Nat.le_of_ble_eq_true rfl) ⟨Nat.zero_le _, Nat.zero_le _⟩ dX11_told_5 (fun r1 _ hw2 => ?_)
  have b4 : (1 : Int) ≤ (G 18 10).toInt ∧ (G 18 10).toInt ≤ 4 := hI 18 10
  have b5 : (1 : Int) ≤ (G 18 11).toInt ∧ (G 18 11).toInt ≤ 6 := hI 18 11
  have q6 : ((0 ≤ s0 ∧ s0 ≤ 11 ∧ r1.toInt = ((G 18) (s0).toNat).toInt) ∨ (20 ≤ s0 ∧ s0 < 20 + (G 18 10).toInt ∧ s0 < 24 ∧ r1.toInt = ((G 18) (s0).toNat).toInt) ∨ (30 ≤ s0 ∧ s0 < 30 + (G 18 11).toInt ∧ s0 < 36 ∧ r1.toInt = ((G 18) (s0).toNat).toInt) ∨ (r1.toInt = -1 ∧ (s0 < 0 ∨ 11 < s0) ∧ (s0 < 20 ∨ 20 + (G 18 10).toInt ≤ s0 ∨ 24 ≤ s0) ∧ (s0 < 30 ∨ 30 + (G 18 11).toInt ≤ s0 ∨ 36 ≤ s0))) := hw2
  clear hw2
  exact u_iret F hA hQ hr () ((q6)) rfl rfl dX11_told_8

theorem dX6_has_0 : decode cX6_has 0 = .ok (.aload_n 0, 1) := by decide +kernel
theorem dX6_has_1 : decode cX6_has 1 = .ok (.getfield 20, 3) := by decide +kernel
theorem dX6_has_4 : decode cX6_has 4 = .ok (.iload_n 1, 1) := by decide +kernel
theorem dX6_has_5 : decode cX6_has 5 = .ok (.invokevirtual 41, 3) := by decide +kernel
theorem dX6_has_8 : decode cX6_has 8 = .ok (.ifCond .eq 24, 3) := by decide +kernel
theorem dX6_has_11 : decode cX6_has 11 = .ok (.iload_n 2, 1) := by decide +kernel
theorem dX6_has_12 : decode cX6_has 12 = .ok (.ifCond .lt 20, 3) := by decide +kernel
theorem dX6_has_15 : decode cX6_has 15 = .ok (.iload_n 2, 1) := by decide +kernel
theorem dX6_has_16 : decode cX6_has 16 = .ok (.aload_n 0, 1) := by decide +kernel
theorem dX6_has_17 : decode cX6_has 17 = .ok (.getfield 20, 3) := by decide +kernel
theorem dX6_has_20 : decode cX6_has 20 = .ok (.getfield 47, 3) := by decide +kernel
theorem dX6_has_23 : decode cX6_has 23 = .ok (.iconst 0, 1) := by decide +kernel
theorem dX6_has_24 : decode cX6_has 24 = .ok (.iaload, 1) := by decide +kernel
theorem dX6_has_25 : decode cX6_has 25 = .ok (.if_icmp .ge 7, 3) := by decide +kernel
theorem dX6_has_28 : decode cX6_has 28 = .ok (.iconst 1, 1) := by decide +kernel
theorem dX6_has_29 : decode cX6_has 29 = .ok (.goto 4, 3) := by decide +kernel
theorem dX6_has_32 : decode cX6_has 32 = .ok (.iconst 0, 1) := by decide +kernel
theorem dX6_has_33 : decode cX6_has 33 = .ok (.ireturn, 1) := by decide +kernel
set_option maxRecDepth 20000 in
theorem ggX6_has_X7_hasRing : GoodIn wsX6_has wsX7_hasRing := goodIn_r _ [7, 8, 14, 15, 16, 17] rfl (by decide +kernel)
set_option maxRecDepth 20000 in
theorem gX6_has_X7_hasRing : GoodIn wsX6_has (wsV RX6 41 RX7 yX7_hasRing wsX7_hasRing) := goodIn_app (goodIn_of _ (by decide +kernel)) ggX6_has_X7_hasRing
set_option maxHeartbeats 4000000 in
set_option maxRecDepth 100000 in
theorem S_X6_has (l : Launch) (D : va_G) (K : Nat → ClassId) (a : Nat → Nat) (G : gS) (p0 : Int32) (s0 : Int) (p1 : Int32) (s1 : Int) (e0 : p0.toInt = s0) (e1 : p1.toInt = s1) (hI : xI G) (sz : Nat) : Ki l yX6_has wsX6_has 2 61 0 0 D [.ref (a 5), .int p0, .int p1] (xW K a G) (tK K) sz (fun (r : Int32) (_ : Unit) => ((r = 1 ∧ (0 ≤ s0 ∧ s0 < (G 18 1).toInt ∧ 0 ≤ s1 ∧ s1 < (G 18 0).toInt)) ∨ (r = 0 ∧ ¬ (0 ≤ s0 ∧ s0 < (G 18 1).toInt ∧ 0 ≤ s1 ∧ s1 < (G 18 0).toInt)))) (fun (_ : Unit) => (xW K a G)) (fun _ => (tK K)) := by
  unfold Ki
  refine g_ofW (cc := cX6_has) (lv := [(0, .ref (a 5)), (1, .int p0), (2, .int p1)]) (by decide) rfl (Nat.le_of_ble_eq_true rfl) rfl ?_
  intro p e s m args below meth c A Q hA hQ F hr hnm
  have hts := F.2.2.2.2.1
  have w_0 : (Cond.fieldLink RX6 20 "QuietCut$Piece" "shop" "LQuietCut$Shop;").before args s = true := hts _ (List.mem_of_getElem? (i := 1) rfl)
  have i_X6 : ∀ w ∈ u_ws RX6 TX6 5, w ∈ wsX6_has := fun _ h => List.mem_cons_of_mem _ (List.mem_append_left _ (List.mem_append_right _ h))
  have w_1 : (Cond.fieldLink RX6 47 "QuietCut$Shop" "numbers" "[I").before args s = true := hts _ (List.mem_of_getElem? (i := 2) rfl)
  have i_X7 : ∀ w ∈ u_ws RX7 TX7 4, w ∈ wsX6_has := fun _ h => List.mem_cons_of_mem _ (List.mem_append_right _ h)
  have rg0 : -2147483648 ≤ s0 ∧ s0 ≤ 2147483647 := e0 ▸ ti_rng p0
  have rg1 : -2147483648 ≤ s1 ∧ s1 ≤ 2147483647 := e1 ▸ ti_rng p1
  have b1 : (4 : Int) ≤ (G 18 0).toInt ∧ (G 18 0).toInt ≤ 16 := hI 18 0
  have b2 : (1 : Int) ≤ (G 18 1).toInt ∧ (G 18 1).toInt ≤ 6 := hI 18 1
  refine g_aload_n F 0 dX6_has_0 rfl rfl ?_
  refine xg_5_0 F i_X6 w_0 dX6_has_1 ?_
  refine g_iload_n F 1 dX6_has_4 rfl rfl ?_
  refine u_callVi (k := 0) (n := 0) (b := a 2) (As := [.int p0]) (st := []) F (fun sz => S_X7_hasRing_2 l D K a G p0 s0 e0 hI sz) (cwV 1 hts gX6_has_X7_hasRing rfl rfl rfl (by decide +kernel) ⟨Nat.le_of_ble_eq_true rfl, Nat.le_of_ble_eq_true rfl⟩) rfl 2 xc_2 rfl (Nat.le_of_ble_eq_true rfl) ⟨Nat.zero_le _, Nat.zero_le _⟩ dX6_has_5 (fun r3 _ hw4 => ?_)
  rcases hw4 with ⟨rfl, q6⟩ | ⟨rfl, q7⟩
  · have q6 : (0 ≤ s0 ∧ s0 < (G 18 1).toInt) := q6
    refine v_if_eq F 32 dX6_has_8 (by decide) 1 rfl (fun c8 => absurd c8 (by decide)) (fun c8 => ?_)
    refine g_iload_n F 2 dX6_has_11 rfl rfl ?_
    refine v_if_lt F 32 dX6_has_12 (by decide) s1 e1 (fun c9 => ?_) (fun c9 => ?_)
    · refine g_iconst F 0 dX6_has_32 (by decide) ?_
      exact u_zret F hA hQ hr rfl () ((Or.inr (⟨rfl, by first | trivial | omega⟩))) rfl rfl dX6_has_33
    · refine g_iload_n F 2 dX6_has_15 rfl rfl ?_
      refine g_aload_n F 0 dX6_has_16 rfl rfl ?_
      refine xg_5_0 F i_X6 w_0 dX6_has_17 ?_
      refine xg_2_0 F i_X7 w_1 dX6_has_20 ?_
      refine g_iconst F 0 dX6_has_23 (by decide) ?_
      refine u1_iald F 18 0 xc_18 rfl 0 rfl (by decide) (by decide) dX6_has_24 (G 18 0) (rfl) ?_
      refine v_icmp_ge F 32 dX6_has_25 (by decide) s1 (G 18 0).toInt e1 rfl (fun c10 => ?_) (fun c10 => ?_)
      · refine g_iconst F 0 dX6_has_32 (by decide) ?_
        exact u_zret F hA hQ hr rfl () ((Or.inr (⟨rfl, by first | trivial | omega⟩))) rfl rfl dX6_has_33
      · refine g_iconst F 1 dX6_has_28 (by decide) ?_
        refine g_goto F 33 dX6_has_29 (by decide) ?_
        exact u_zret F hA hQ hr rfl () ((Or.inl (⟨rfl, by first | trivial | omega⟩))) rfl rfl dX6_has_33
  · have q7 : (s0 < 0 ∨ (G 18 1).toInt ≤ s0) := q7
    refine v_if_eq F 32 dX6_has_8 (by decide) 0 rfl (fun c11 => ?_) (fun c11 => absurd c11 (by decide))
    refine g_iconst F 0 dX6_has_32 (by decide) ?_
    exact u_zret F hA hQ hr rfl () ((Or.inr (⟨rfl, by first | trivial | omega⟩))) rfl rfl dX6_has_33

theorem dX6_mayBeHigh_0 : decode cX6_mayBeHigh 0 = .ok (.iload_n 0, 1) := by decide +kernel
theorem dX6_mayBeHigh_1 : decode cX6_mayBeHigh 1 = .ok (.bipush 100, 2) := by decide +kernel
theorem dX6_mayBeHigh_3 : decode cX6_mayBeHigh 3 = .ok (.if_icmp .lt 14, 3) := by decide +kernel
theorem dX6_mayBeHigh_6 : decode cX6_mayBeHigh 6 = .ok (.iload_n 0, 1) := by decide +kernel
theorem dX6_mayBeHigh_7 : decode cX6_mayBeHigh 7 = .ok (.sipush 5000, 3) := by decide +kernel
theorem dX6_mayBeHigh_10 : decode cX6_mayBeHigh 10 = .ok (.if_icmp .gt 7, 3) := by decide +kernel
theorem dX6_mayBeHigh_13 : decode cX6_mayBeHigh 13 = .ok (.iconst 1, 1) := by decide +kernel
theorem dX6_mayBeHigh_14 : decode cX6_mayBeHigh 14 = .ok (.goto 4, 3) := by decide +kernel
theorem dX6_mayBeHigh_17 : decode cX6_mayBeHigh 17 = .ok (.iconst 0, 1) := by decide +kernel
theorem dX6_mayBeHigh_18 : decode cX6_mayBeHigh 18 = .ok (.ireturn, 1) := by decide +kernel
set_option maxHeartbeats 4000000 in
set_option maxRecDepth 100000 in
theorem S_X6_mayBeHigh (l : Launch) (D : va_G)  (p0 : Int32) (s0 : Int) (e0 : p0.toInt = s0) (sz : Nat) : Ki l yX6_mayBeHigh wsX6_mayBeHigh 1 40 0 0 D [.int p0] [] [] sz (fun (r : Int32) (_ : Unit) => ((r = 1 ∧ (100 ≤ s0 ∧ s0 ≤ 5000)) ∨ (r = 0 ∧ (s0 < 100 ∨ 5000 < s0)))) (fun (_ : Unit) => []) (fun _ => []) := by
  unfold Ki
  refine g_ofW (cc := cX6_mayBeHigh) (lv := [(0, .int p0)]) (by decide) rfl (Nat.le_of_ble_eq_true rfl) rfl ?_
  intro p e s m args below meth c A Q hA hQ F hr hnm
  have hts := F.2.2.2.2.1
  have rg0 : -2147483648 ≤ s0 ∧ s0 ≤ 2147483647 := e0 ▸ ti_rng p0
  refine g_iload_n F 0 dX6_mayBeHigh_0 rfl rfl ?_
  refine g_bipush F 100 dX6_mayBeHigh_1 (by decide) ?_
  refine v_icmp_lt F 17 dX6_mayBeHigh_3 (by decide) s0 100 e0 rfl (fun c1 => ?_) (fun c1 => ?_)
  · refine g_iconst F 0 dX6_mayBeHigh_17 (by decide) ?_
    exact u_zret F hA hQ hr rfl () ((Or.inr (⟨rfl, by first | trivial | omega⟩))) rfl rfl dX6_mayBeHigh_18
  · refine g_iload_n F 0 dX6_mayBeHigh_6 rfl rfl ?_
    refine g_sipush F 5000 dX6_mayBeHigh_7 (by decide) ?_
    refine v_icmp_gt F 17 dX6_mayBeHigh_10 (by decide) s0 5000 e0 rfl (fun c2 => ?_) (fun c2 => ?_)
    · refine g_iconst F 0 dX6_mayBeHigh_17 (by decide) ?_
      exact u_zret F hA hQ hr rfl () ((Or.inr (⟨rfl, by first | trivial | omega⟩))) rfl rfl dX6_mayBeHigh_18
    · refine g_iconst F 1 dX6_mayBeHigh_13 (by decide) ?_
      refine g_goto F 18 dX6_mayBeHigh_14 (by decide) ?_
      exact u_zret F hA hQ hr rfl () ((Or.inl (⟨rfl, by first | trivial | omega⟩))) rfl rfl dX6_mayBeHigh_18

theorem dX6_putByHand_0 : decode cX6_putByHand 0 = .ok (.iload_n 1, 1) := by decide +kernel
theorem dX6_putByHand_1 : decode cX6_putByHand 1 = .ok (.ifCond .lt 9, 3) := by decide +kernel
theorem dX6_putByHand_4 : decode cX6_putByHand 4 = .ok (.iload_n 1, 1) := by decide +kernel
theorem dX6_putByHand_5 : decode cX6_putByHand 5 = .ok (.bipush 96, 2) := by decide +kernel
theorem dX6_putByHand_7 : decode cX6_putByHand 7 = .ok (.if_icmp .lt 6, 3) := by decide +kernel
theorem dX6_putByHand_10 : decode cX6_putByHand 10 = .ok (.ldc 50, 2) := by decide +kernel
theorem dX6_putByHand_12 : decode cX6_putByHand 12 = .ok (.ireturn, 1) := by decide +kernel
theorem dX6_putByHand_13 : decode cX6_putByHand 13 = .ok (.aload_n 0, 1) := by decide +kernel
theorem dX6_putByHand_14 : decode cX6_putByHand 14 = .ok (.getfield 9, 3) := by decide +kernel
theorem dX6_putByHand_17 : decode cX6_putByHand 17 = .ok (.iload_n 1, 1) := by decide +kernel
theorem dX6_putByHand_18 : decode cX6_putByHand 18 = .ok (.iaload, 1) := by decide +kernel
theorem dX6_putByHand_19 : decode cX6_putByHand 19 = .ok (.istore_n 3, 1) := by decide +kernel
theorem dX6_putByHand_20 : decode cX6_putByHand 20 = .ok (.aload_n 0, 1) := by decide +kernel
theorem dX6_putByHand_21 : decode cX6_putByHand 21 = .ok (.getfield 9, 3) := by decide +kernel
theorem dX6_putByHand_24 : decode cX6_putByHand 24 = .ok (.iload_n 1, 1) := by decide +kernel
theorem dX6_putByHand_25 : decode cX6_putByHand 25 = .ok (.iload_n 2, 1) := by decide +kernel
theorem dX6_putByHand_26 : decode cX6_putByHand 26 = .ok (.iastore, 1) := by decide +kernel
theorem dX6_putByHand_27 : decode cX6_putByHand 27 = .ok (.aload_n 0, 1) := by decide +kernel
theorem dX6_putByHand_28 : decode cX6_putByHand 28 = .ok (.getfield 17, 3) := by decide +kernel
theorem dX6_putByHand_31 : decode cX6_putByHand 31 = .ok (.iconst 0, 1) := by decide +kernel
theorem dX6_putByHand_32 : decode cX6_putByHand 32 = .ok (.aaload, 1) := by decide +kernel
theorem dX6_putByHand_33 : decode cX6_putByHand 33 = .ok (.iload_n 1, 1) := by decide +kernel
theorem dX6_putByHand_34 : decode cX6_putByHand 34 = .ok (.iconst (-1), 1) := by decide +kernel
theorem dX6_putByHand_35 : decode cX6_putByHand 35 = .ok (.iastore, 1) := by decide +kernel
theorem dX6_putByHand_36 : decode cX6_putByHand 36 = .ok (.iload_n 3, 1) := by decide +kernel
theorem dX6_putByHand_37 : decode cX6_putByHand 37 = .ok (.ireturn, 1) := by decide +kernel
set_option maxHeartbeats 4000000 in
set_option maxRecDepth 100000 in
theorem S_X6_putByHand (l : Launch) (D : va_G) (K : Nat → ClassId) (a : Nat → Nat) (G : gS) (p0 : Int32) (s0 : Int) (p1 : Int32) (s1 : Int) (e0 : p0.toInt = s0) (h0 : 0 ≤ s0 ∧ s0 ≤ 95) (e1 : p1.toInt = s1) (h1 : 100 ≤ s1 ∧ s1 ≤ 5000) (hI : xI G) (sz : Nat) : Ki l yX6_putByHand wsX6_putByHand 1 40 0 0 D [.ref (a 5), .int p0, .int p1] (xW K a G) (tK K) sz (fun (r : Int32) (G' : gS) => (xI G') ∧ (gu_un xcd [3800, 4000] G G') ∧ ((-9998) ≤ r.toInt ∧ r.toInt ≤ 5000) ∧ ((r.toInt = ((G 38) (s0).toNat).toInt ∧ pcU (s0).toNat p1 (xPc G) (xPc G')))) (fun (G' : gS) => (xW K a G')) (fun _ => (tK K)) := by
  unfold Ki
  refine g_ofW (cc := cX6_putByHand) (lv := [(0, .ref (a 5)), (1, .int p0), (2, .int p1)]) (by decide) rfl (Nat.le_of_ble_eq_true rfl) rfl ?_
  intro p e s m args below meth c A Q hA hQ F hr hnm
  have hts := F.2.2.2.2.1
  have w_0 : (Cond.fieldLink RX6 9 "QuietCut$Piece" "heights" "[I").before args s = true := hts _ (List.mem_of_getElem? (i := 2) rfl)
  have i_X6 : ∀ w ∈ u_ws RX6 TX6 5, w ∈ wsX6_putByHand := fun _ h => List.mem_cons_of_mem _ (List.mem_append_right _ h)
  have w_1 : (Cond.fieldLink RX6 17 "QuietCut$Piece" "left" "[[I").before args s = true := hts _ (List.mem_of_getElem? (i := 3) rfl)
  refine g_iload_n F 1 dX6_putByHand_0 rfl rfl ?_
  refine v_if_lt F 10 dX6_putByHand_1 (by decide) s0 e0 (fun c1 => absurd c1 (by omega)) (fun c1 => ?_)
  refine g_iload_n F 1 dX6_putByHand_4 rfl rfl ?_
  refine g_bipush F 96 dX6_putByHand_5 (by decide) ?_
  refine v_icmp_lt F 13 dX6_putByHand_7 (by decide) s0 96 e0 rfl (fun c2 => ?_) (fun c2 => absurd c2 (by omega))
  refine g_aload_n F 0 dX6_putByHand_13 rfl rfl ?_
  refine xg_5_1 F i_X6 w_0 dX6_putByHand_14 ?_
  refine g_iload_n F 1 dX6_putByHand_17 rfl rfl ?_
  refine u1_iald F 38 0 xc_38 rfl s0 e0 (by omega) (by omega) dX6_putByHand_18 ((G 38) (s0).toNat) (rfl) ?_
  have b3 : ((-9998) : Int) ≤ ((G 38) (s0).toNat).toInt ∧ ((G 38) (s0).toNat).toInt ≤ 5000 := hI 38 _
  refine g_istore_n F [(3, .int ((G 38) (s0).toNat)), (0, .ref (a 5)), (1, .int p0), (2, .int p1)] dX6_putByHand_19 rfl (by decide) rfl ?_
  refine g_aload_n F 1 dX6_putByHand_20 rfl rfl ?_
  refine xg_5_1 F i_X6 w_0 dX6_putByHand_21 ?_
  refine g_iload_n F 2 dX6_putByHand_24 rfl rfl ?_
  refine g_iload_n F 3 dX6_putByHand_25 rfl rfl ?_
  refine u_iast F 38 0 xc_38 rfl s0 e0 (by omega) (by omega) (xW K a (gu_up G 38 (s0).toNat p1)) (xs_38 _) dX6_putByHand_26 ?_
  refine g_aload_n F 1 dX6_putByHand_27 rfl rfl ?_
  refine xg_5_4 F i_X6 w_1 dX6_putByHand_28 ?_
  refine g_iconst F 0 dX6_putByHand_31 (by decide) ?_
  refine g_aald (b := a 40) F 39 1 xc_39 rfl (ti_in (show Int32.toInt 0 = 0 from rfl) (by decide) (by decide)) (by rw [show Int32.toNatClampNeg 0 = 0 from congrArg Int.toNat (show Int32.toInt 0 = 0 from rfl)]; rfl) dX6_putByHand_32 ?_
  refine g_iload_n F 2 dX6_putByHand_33 rfl rfl ?_
  refine g_iconst F (-1) dX6_putByHand_34 (by decide) ?_
  refine u_iast F 40 0 xc_40 rfl s0 e0 (by omega) (by omega) (xW K a (gu_up (gu_up G 38 (s0).toNat p1) 40 (s0).toNat (-1))) (xs_40 _) dX6_putByHand_35 ?_
  refine g_iload_n F 0 dX6_putByHand_36 rfl rfl ?_
  exact u_iret F hA hQ hr (gu_up (gu_up G 38 (s0).toNat p1) 40 (s0).toNat (-1)) (⟨(gu_I.up (j := 40) (k := (s0).toNat) (v := (-1)) (gu_I.up (j := 38) (k := (s0).toNat) (v := p1) hI (show ((-9998) : Int) ≤ Int32.toInt p1 by omega) (show Int32.toInt p1 ≤ 5000 by omega)) (ti_rng _).1 (ti_rng _).2), (gu_un.up (j := 40) (k := (s0).toNat) (v := (-1)) (gu_un.up (j := 38) (k := (s0).toNat) (v := p1) gu_un.rf (show (3800 : Nat) ∈ ([3800, 4000] : List Nat) by decide)) (show (4000 : Nat) ∈ ([3800, 4000] : List Nat) by decide)), (by have h9 := ti_rng ((G 38) (s0).toNat); omega), (⟨rfl, pcU_up⟩)⟩) rfl rfl dX6_putByHand_37

theorem dX6_leftBy_0 : decode cX6_leftBy 0 = .ok (.iload_n 1, 1) := by decide +kernel
theorem dX6_leftBy_1 : decode cX6_leftBy 1 = .ok (.ifCond .lt 22, 3) := by decide +kernel
theorem dX6_leftBy_4 : decode cX6_leftBy 4 = .ok (.iload_n 1, 1) := by decide +kernel
theorem dX6_leftBy_5 : decode cX6_leftBy 5 = .ok (.bipush 96, 2) := by decide +kernel
theorem dX6_leftBy_7 : decode cX6_leftBy 7 = .ok (.if_icmp .ge 16, 3) := by decide +kernel
theorem dX6_leftBy_10 : decode cX6_leftBy 10 = .ok (.iload_n 2, 1) := by decide +kernel
theorem dX6_leftBy_11 : decode cX6_leftBy 11 = .ok (.ifCond .lt 12, 3) := by decide +kernel
theorem dX6_leftBy_14 : decode cX6_leftBy 14 = .ok (.iload_n 2, 1) := by decide +kernel
theorem dX6_leftBy_15 : decode cX6_leftBy 15 = .ok (.aload_n 0, 1) := by decide +kernel
theorem dX6_leftBy_16 : decode cX6_leftBy 16 = .ok (.getfield 17, 3) := by decide +kernel
theorem dX6_leftBy_19 : decode cX6_leftBy 19 = .ok (.arraylength, 1) := by decide +kernel
theorem dX6_leftBy_20 : decode cX6_leftBy 20 = .ok (.if_icmp .lt 5, 3) := by decide +kernel
theorem dX6_leftBy_23 : decode cX6_leftBy 23 = .ok (.iconst (-1), 1) := by decide +kernel
theorem dX6_leftBy_24 : decode cX6_leftBy 24 = .ok (.ireturn, 1) := by decide +kernel
theorem dX6_leftBy_25 : decode cX6_leftBy 25 = .ok (.aload_n 0, 1) := by decide +kernel
theorem dX6_leftBy_26 : decode cX6_leftBy 26 = .ok (.getfield 17, 3) := by decide +kernel
theorem dX6_leftBy_29 : decode cX6_leftBy 29 = .ok (.iconst 0, 1) := by decide +kernel
theorem dX6_leftBy_30 : decode cX6_leftBy 30 = .ok (.aaload, 1) := by decide +kernel
theorem dX6_leftBy_31 : decode cX6_leftBy 31 = .ok (.iload_n 1, 1) := by decide +kernel
theorem dX6_leftBy_32 : decode cX6_leftBy 32 = .ok (.iaload, 1) := by decide +kernel
theorem dX6_leftBy_33 : decode cX6_leftBy 33 = .ok (.iconst (-1), 1) := by decide +kernel
theorem dX6_leftBy_34 : decode cX6_leftBy 34 = .ok (.if_icmp .ne 7, 3) := by decide +kernel
theorem dX6_leftBy_37 : decode cX6_leftBy 37 = .ok (.iconst (-1), 1) := by decide +kernel
theorem dX6_leftBy_38 : decode cX6_leftBy 38 = .ok (.goto 11, 3) := by decide +kernel
theorem dX6_leftBy_41 : decode cX6_leftBy 41 = .ok (.aload_n 0, 1) := by decide +kernel
theorem dX6_leftBy_42 : decode cX6_leftBy 42 = .ok (.getfield 17, 3) := by decide +kernel
theorem dX6_leftBy_45 : decode cX6_leftBy 45 = .ok (.iload_n 2, 1) := by decide +kernel
theorem dX6_leftBy_46 : decode cX6_leftBy 46 = .ok (.aaload, 1) := by decide +kernel
theorem dX6_leftBy_47 : decode cX6_leftBy 47 = .ok (.iload_n 1, 1) := by decide +kernel
theorem dX6_leftBy_48 : decode cX6_leftBy 48 = .ok (.iaload, 1) := by decide +kernel
theorem dX6_leftBy_49 : decode cX6_leftBy 49 = .ok (.ireturn, 1) := by decide +kernel
set_option maxHeartbeats 4000000 in
set_option maxRecDepth 100000 in
theorem S_X6_leftBy (l : Launch) (D : va_G) (K : Nat → ClassId) (a : Nat → Nat) (G : gS) (p0 : Int32) (s0 : Int) (p1 : Int32) (s1 : Int) (e0 : p0.toInt = s0) (h0 : 0 ≤ s0 ∧ s0 ≤ 95) (e1 : p1.toInt = s1) (hI : xI G) (sz : Nat) : Ki l yX6_leftBy wsX6_leftBy 1 40 0 0 D [.ref (a 5), .int p0, .int p1] (xW K a G) (tK K) sz (fun (r : Int32) (_ : Unit) => ((((0 ≤ s1 ∧ s1 < 4 ∧ ((G 40) (s0).toNat).toInt ≠ -1) ∧ r.toInt = (xPc G (s1.toNat + 1) (s0).toNat).toInt) ∨ (¬ (0 ≤ s1 ∧ s1 < 4 ∧ ((G 40) (s0).toNat).toInt ≠ -1) ∧ r.toInt = -1)))) (fun (_ : Unit) => (xW K a G)) (fun _ => (tK K)) := by
  unfold Ki
  refine g_ofW (cc := cX6_leftBy) (lv := [(0, .ref (a 5)), (1, .int p0), (2, .int p1)]) (by decide) rfl (Nat.le_of_ble_eq_true rfl) rfl ?_
  intro p e s m args below meth c A Q hA hQ F hr hnm
  have hts := F.2.2.2.2.1
  have w_0 : (Cond.fieldLink RX6 17 "QuietCut$Piece" "left" "[[I").before args s = true := hts _ (List.mem_of_getElem? (i := 1) rfl)
  have i_X6 : ∀ w ∈ u_ws RX6 TX6 5, w ∈ wsX6_leftBy := fun _ h => List.mem_cons_of_mem _ (List.mem_append_right _ h)
  have rg1 : -2147483648 ≤ s1 ∧ s1 ≤ 2147483647 := e1 ▸ ti_rng p1
  refine g_iload_n F 1 dX6_leftBy_0 rfl rfl ?_
  refine v_if_lt F 23 dX6_leftBy_1 (by decide) s0 e0 (fun c1 => absurd c1 (by omega)) (fun c1 => ?_)
  refine g_iload_n F 1 dX6_leftBy_4 rfl rfl ?_
  refine g_bipush F 96 dX6_leftBy_5 (by decide) ?_
  refine v_icmp_ge F 23 dX6_leftBy_7 (by decide) s0 96 e0 rfl (fun c2 => absurd c2 (by omega)) (fun c2 => ?_)
  refine g_iload_n F 2 dX6_leftBy_10 rfl rfl ?_
  refine v_if_lt F 23 dX6_leftBy_11 (by decide) s1 e1 (fun c3 => ?_) (fun c3 => ?_)
  · refine g_iconst F (-1) dX6_leftBy_23 (by decide) ?_
    exact u_iret F hA hQ hr () ((by first | exact Or.inr ⟨by omega, by decide⟩ | exact Or.inl ⟨by omega, by rw [show (s1).toNat + 1 = 1 by omega]; rfl⟩ | exact Or.inl ⟨by omega, by rw [show (s1).toNat + 1 = 2 by omega]; rfl⟩ | exact Or.inl ⟨by omega, by rw [show (s1).toNat + 1 = 3 by omega]; rfl⟩ | exact Or.inl ⟨by omega, by rw [show (s1).toNat + 1 = 4 by omega]; rfl⟩)) rfl rfl dX6_leftBy_24
  · refine g_iload_n F 2 dX6_leftBy_14 rfl rfl ?_
    refine g_aload_n F 0 dX6_leftBy_15 rfl rfl ?_
    refine xg_5_4 F i_X6 w_0 dX6_leftBy_16 ?_
    refine g_alen F 39 1 xc_39 rfl 4 rfl dX6_leftBy_19 ?_
    refine v_icmp_lt F 25 dX6_leftBy_20 (by decide) s1 4 e1 rfl (fun c4 => ?_) (fun c4 => ?_)
    · refine g_aload_n F 0 dX6_leftBy_25 rfl rfl ?_
      refine xg_5_4 F i_X6 w_0 dX6_leftBy_26 ?_
      refine g_iconst F 0 dX6_leftBy_29 (by decide) ?_
      refine g_aald (b := a 40) F 39 1 xc_39 rfl (ti_in (show Int32.toInt 0 = 0 from rfl) (by decide) (by decide)) (by rw [show Int32.toNatClampNeg 0 = 0 from congrArg Int.toNat (show Int32.toInt 0 = 0 from rfl)]; rfl) dX6_leftBy_30 ?_
      refine g_iload_n F 1 dX6_leftBy_31 rfl rfl ?_
      refine u1_iald F 40 0 xc_40 rfl s0 e0 (by omega) (by omega) dX6_leftBy_32 ((G 40) (s0).toNat) (rfl) ?_
      refine g_iconst F (-1) dX6_leftBy_33 (by decide) ?_
      refine v_icmp_ne F 41 dX6_leftBy_34 (by decide) ((G 40) (s0).toNat).toInt (-1) rfl rfl (fun c5 => ?_) (fun c5 => ?_)
      · refine g_aload_n F 0 dX6_leftBy_41 rfl rfl ?_
        refine xg_5_4 F i_X6 w_0 dX6_leftBy_42 ?_
        refine g_iload_n F 2 dX6_leftBy_45 rfl rfl ?_
        rcases (show s1 = 0 ∨ s1 = 1 ∨ s1 = 2 ∨ s1 = 3 by omega) with c6 | c6 | c6 | c6
        · refine g_aald (b := a 40) F 39 1 xc_39 rfl (ti_in (show Int32.toInt p1 = 0 from (e1.trans c6)) (by decide) (by decide)) (by rw [show Int32.toNatClampNeg p1 = 0 from congrArg Int.toNat (show Int32.toInt p1 = 0 from (e1.trans c6))]; rfl) dX6_leftBy_46 ?_
          refine g_iload_n F 1 dX6_leftBy_47 rfl rfl ?_
          refine u1_iald F 40 0 xc_40 rfl s0 e0 (by omega) (by omega) dX6_leftBy_48 ((G 40) (s0).toNat) (rfl) ?_
          exact u_iret F hA hQ hr () ((by first | exact Or.inr ⟨by omega, by decide⟩ | exact Or.inl ⟨by omega, by rw [show (s1).toNat + 1 = 1 by omega]; rfl⟩ | exact Or.inl ⟨by omega, by rw [show (s1).toNat + 1 = 2 by omega]; rfl⟩ | exact Or.inl ⟨by omega, by rw [show (s1).toNat + 1 = 3 by omega]; rfl⟩ | exact Or.inl ⟨by omega, by rw [show (s1).toNat + 1 = 4 by omega]; rfl⟩)) rfl rfl dX6_leftBy_49
        · refine g_aald (b := a 41) F 39 1 xc_39 rfl (ti_in (show Int32.toInt p1 = 1 from (e1.trans c6)) (by decide) (by decide)) (by rw [show Int32.toNatClampNeg p1 = 1 from congrArg Int.toNat (show Int32.toInt p1 = 1 from (e1.trans c6))]; rfl) dX6_leftBy_46 ?_
          refine g_iload_n F 1 dX6_leftBy_47 rfl rfl ?_
          refine u1_iald F 41 0 xc_41 rfl s0 e0 (by omega) (by omega) dX6_leftBy_48 ((G 41) (s0).toNat) (rfl) ?_
          exact u_iret F hA hQ hr () ((by first | exact Or.inr ⟨by omega, by decide⟩ | exact Or.inl ⟨by omega, by rw [show (s1).toNat + 1 = 1 by omega]; rfl⟩ | exact Or.inl ⟨by omega, by rw [show (s1).toNat + 1 = 2 by omega]; rfl⟩ | exact Or.inl ⟨by omega, by rw [show (s1).toNat + 1 = 3 by omega]; rfl⟩ | exact Or.inl ⟨by omega, by rw [show (s1).toNat + 1 = 4 by omega]; rfl⟩)) rfl rfl dX6_leftBy_49
        · refine g_aald (b := a 42) F 39 1 xc_39 rfl (ti_in (show Int32.toInt p1 = 2 from (e1.trans c6)) (by decide) (by decide)) (by rw [show Int32.toNatClampNeg p1 = 2 from congrArg Int.toNat (show Int32.toInt p1 = 2 from (e1.trans c6))]; rfl) dX6_leftBy_46 ?_
          refine g_iload_n F 1 dX6_leftBy_47 rfl rfl ?_
          refine u1_iald F 42 0 xc_42 rfl s0 e0 (by omega) (by omega) dX6_leftBy_48 ((G 42) (s0).toNat) (rfl) ?_
          exact u_iret F hA hQ hr () ((by first | exact Or.inr ⟨by omega, by decide⟩ | exact Or.inl ⟨by omega, by rw [show (s1).toNat + 1 = 1 by omega]; rfl⟩ | exact Or.inl ⟨by omega, by rw [show (s1).toNat + 1 = 2 by omega]; rfl⟩ | exact Or.inl ⟨by omega, by rw [show (s1).toNat + 1 = 3 by omega]; rfl⟩ | exact Or.inl ⟨by omega, by rw [show (s1).toNat + 1 = 4 by omega]; rfl⟩)) rfl rfl dX6_leftBy_49
        · refine g_aald (b := a 43) F 39 1 xc_39 rfl (ti_in (show Int32.toInt p1 = 3 from (e1.trans c6)) (by decide) (by decide)) (by rw [show Int32.toNatClampNeg p1 = 3 from congrArg Int.toNat (show Int32.toInt p1 = 3 from (e1.trans c6))]; rfl) dX6_leftBy_46 ?_
          refine g_iload_n F 1 dX6_leftBy_47 rfl rfl ?_
          refine u1_iald F 43 0 xc_43 rfl s0 e0 (by omega) (by omega) dX6_leftBy_48 ((G 43) (s0).toNat) (rfl) ?_
          exact u_iret F hA hQ hr () ((by first | exact Or.inr ⟨by omega, by decide⟩ | exact Or.inl ⟨by omega, by rw [show (s1).toNat + 1 = 1 by omega]; rfl⟩ | exact Or.inl ⟨by omega, by rw [show (s1).toNat + 1 = 2 by omega]; rfl⟩ | exact Or.inl ⟨by omega, by rw [show (s1).toNat + 1 = 3 by omega]; rfl⟩ | exact Or.inl ⟨by omega, by rw [show (s1).toNat + 1 = 4 by omega]; rfl⟩)) rfl rfl dX6_leftBy_49
      · refine g_iconst F (-1) dX6_leftBy_37 (by decide) ?_
        refine g_goto F 49 dX6_leftBy_38 (by decide) ?_
        exact u_iret F hA hQ hr () ((by first | exact Or.inr ⟨by omega, by decide⟩ | exact Or.inl ⟨by omega, by rw [show (s1).toNat + 1 = 1 by omega]; rfl⟩ | exact Or.inl ⟨by omega, by rw [show (s1).toNat + 1 = 2 by omega]; rfl⟩ | exact Or.inl ⟨by omega, by rw [show (s1).toNat + 1 = 3 by omega]; rfl⟩ | exact Or.inl ⟨by omega, by rw [show (s1).toNat + 1 = 4 by omega]; rfl⟩)) rfl rfl dX6_leftBy_49
    · refine g_iconst F (-1) dX6_leftBy_23 (by decide) ?_
      exact u_iret F hA hQ hr () ((by first | exact Or.inr ⟨by omega, by decide⟩ | exact Or.inl ⟨by omega, by rw [show (s1).toNat + 1 = 1 by omega]; rfl⟩ | exact Or.inl ⟨by omega, by rw [show (s1).toNat + 1 = 2 by omega]; rfl⟩ | exact Or.inl ⟨by omega, by rw [show (s1).toNat + 1 = 3 by omega]; rfl⟩ | exact Or.inl ⟨by omega, by rw [show (s1).toNat + 1 = 4 by omega]; rfl⟩)) rfl rfl dX6_leftBy_24

theorem dJ7_fill_53178_0 : decode cJ7_fill_53178 0 = .ok (.iconst 0, 1) := by decide +kernel
theorem dJ7_fill_53178_1 : decode cJ7_fill_53178 1 = .ok (.istore_n 2, 1) := by decide +kernel
theorem dJ7_fill_53178_2 : decode cJ7_fill_53178 2 = .ok (.aload_n 0, 1) := by decide +kernel
theorem dJ7_fill_53178_3 : decode cJ7_fill_53178 3 = .ok (.arraylength, 1) := by decide +kernel
theorem dJ7_fill_53178_4 : decode cJ7_fill_53178 4 = .ok (.istore_n 3, 1) := by decide +kernel
theorem dJ7_fill_53178_5 : decode cJ7_fill_53178 5 = .ok (.iload_n 2, 1) := by decide +kernel
theorem dJ7_fill_53178_6 : decode cJ7_fill_53178 6 = .ok (.iload_n 3, 1) := by decide +kernel
theorem dJ7_fill_53178_7 : decode cJ7_fill_53178 7 = .ok (.if_icmp .ge 13, 3) := by decide +kernel
theorem dJ7_fill_53178_10 : decode cJ7_fill_53178 10 = .ok (.aload_n 0, 1) := by decide +kernel
theorem dJ7_fill_53178_11 : decode cJ7_fill_53178 11 = .ok (.iload_n 2, 1) := by decide +kernel
theorem dJ7_fill_53178_12 : decode cJ7_fill_53178 12 = .ok (.iload_n 1, 1) := by decide +kernel
theorem dJ7_fill_53178_13 : decode cJ7_fill_53178 13 = .ok (.iastore, 1) := by decide +kernel
theorem dJ7_fill_53178_14 : decode cJ7_fill_53178 14 = .ok (.iinc 2 1, 3) := by decide +kernel
theorem dJ7_fill_53178_17 : decode cJ7_fill_53178 17 = .ok (.goto (-12), 3) := by decide +kernel
theorem dJ7_fill_53178_20 : decode cJ7_fill_53178 20 = .ok (.return_, 1) := by decide +kernel
set_option maxHeartbeats 4000000 in
set_option maxRecDepth 100000 in
theorem S_J7_fill_53178_38 (l : Launch) (D : va_G) (K : Nat → ClassId) (a : Nat → Nat) (G : gS) (p1 : Int32) (s1 : Int) (e1 : p1.toInt = s1) (h1 : (-9998) ≤ s1 ∧ s1 ≤ 5000) (hI : xI G) (sz : Nat) : Kv l yJ7_fill_53178 wsJ7_fill_53178 1 40 0 0 D [.ref (a 38), .int p1] (xW K a G) (tK K) sz (fun (G' : gS) => (xI G') ∧ (gu_un xcd [3800] G G') ∧ ((∀ q : Nat, q < 96 → G' 38 q = p1))) (fun (G' : gS) => (xW K a G')) (fun _ => (tK K)) := by
  unfold Kv
  refine g_ofW (cc := cJ7_fill_53178) (lv := [(0, .ref (a 38)), (1, .int p1)]) (by decide +kernel) rfl (Nat.le_of_ble_eq_true rfl) rfl ?_
  intro p e s m args below meth c A Q hA hQ F hr hnm
  have hts := F.2.2.2.2.1
  have J_5 : ∀ (fuel : Nat) (x5_2 : Int32) (Gj5 : gS), (2147483647 - x5_2.toInt).toNat < fuel → (0 ≤ x5_2.toInt ∧ x5_2.toInt ≤ 96) → (xI Gj5) → (gu_un xcd [3800] G Gj5) → (∀ q : Nat, (q : Int) < x5_2.toInt → Gj5 38 q = p1) → gG p l e (gR 1 0 0 40) s m args below meth c D A 4 Q 0 0 (xW K a Gj5) (tK K) [(0, .ref (a 38)), (1, .int p1), (2, .int x5_2), (3, .int 96)] 5 [] := by
    intro fuel
    induction fuel with
    | zero => intro x5_2 Gj5 hm; exact absurd hm (Nat.not_lt_zero _)
    | succ fuel_5 ih_5 =>
      intro x5_2 Gj5 hm_5 h5_2 jI5 jU5 fz
      refine g_iload_n F 2 dJ7_fill_53178_5 rfl rfl ?_
      refine g_iload_n F 3 dJ7_fill_53178_6 rfl rfl ?_
      refine v_icmp_ge F 20 dJ7_fill_53178_7 (by decide) x5_2.toInt 96 rfl rfl (fun c1 => ?_) (fun c1 => ?_)
      · exact u_vret F hA hQ hr Gj5 (⟨jI5, (gu_un.tr gu_un.rf (gu_un.su jU5 rfl)), (fun q hq => fz q (by omega))⟩) rfl rfl dJ7_fill_53178_20
      · refine g_aload_n F 0 dJ7_fill_53178_10 rfl rfl ?_
        refine g_iload_n F 2 dJ7_fill_53178_11 rfl rfl ?_
        refine g_iload_n F 1 dJ7_fill_53178_12 rfl rfl ?_
        refine u_iast F 38 0 xc_38 rfl x5_2.toInt rfl (by omega) (by omega) (xW K a (gu_up Gj5 38 (x5_2.toInt).toNat p1)) (xs_38 _) dJ7_fill_53178_13 ?_
        refine u_iinc F (fun v_ => [(2, .int v_), (0, .ref (a 38)), (1, .int p1), (3, .int 96)]) dJ7_fill_53178_14 (j := 2) rfl x5_2.toInt 1 rfl rfl (by omega) (by omega) (by decide) (fun _ => rfl) (fun y2 ey2 => ?_)
        refine g_goto F 5 dJ7_fill_53178_17 (by decide) ?_
        refine g_locals [(0, .ref (a 38)), (1, .int p1), (2, .int y2), (3, .int 96)] [1, 2, 0, 3] rfl ?_
        exact ih_5 y2 (gu_up Gj5 38 (x5_2.toInt).toNat p1) (by omega) (by have h9 := ti_rng y2; omega) (gu_I.up (j := 38) (k := (x5_2.toInt).toNat) (v := p1) jI5 (show ((-9998) : Int) ≤ Int32.toInt p1 by omega) (show Int32.toInt p1 ≤ 5000 by omega)) (gu_un.up (j := 38) (k := (x5_2.toInt).toNat) (v := p1) (gu_un.tr gu_un.rf (gu_un.su jU5 rfl)) (show (3800 : Nat) ∈ ([3800] : List Nat) by decide)) (pfill_1 (by omega) (by omega) fz)
  refine g_iconst F 0 dJ7_fill_53178_0 (by decide) ?_
  refine g_istore_n F [(2, .int 0), (0, .ref (a 38)), (1, .int p1)] dJ7_fill_53178_1 rfl (by decide) rfl ?_
  refine g_aload_n F 1 dJ7_fill_53178_2 rfl rfl ?_
  refine g_alen F 38 0 xc_38 rfl 96 rfl dJ7_fill_53178_3 ?_
  refine g_istore_n F [(3, .int 96), (2, .int 0), (0, .ref (a 38)), (1, .int p1)] dJ7_fill_53178_4 rfl (by decide) rfl ?_
  refine g_locals [(0, .ref (a 38)), (1, .int p1), (2, .int 0), (3, .int 96)] [2, 3, 1, 0] rfl ?_
  exact J_5 _ 0 G (Nat.lt_succ_self _) (by decide) hI gu_un.rf (fun q h1 => by have h2 : (q : Int) < 0 := h1; omega)


set_option maxHeartbeats 4000000 in
set_option maxRecDepth 100000 in
theorem S_J7_fill_53178_40 (l : Launch) (D : va_G) (K : Nat → ClassId) (a : Nat → Nat) (G : gS) (p1 : Int32) (s1 : Int) (e1 : p1.toInt = s1) (hI : xI G) (sz : Nat) : Kv l yJ7_fill_53178 wsJ7_fill_53178 1 40 0 0 D [.ref (a 40), .int p1] (xW K a G) (tK K) sz (fun (G' : gS) => (xI G') ∧ (gu_un xcd [4000] G G') ∧ ((∀ q : Nat, q < 96 → G' 40 q = p1))) (fun (G' : gS) => (xW K a G')) (fun _ => (tK K)) := by
  unfold Kv
  refine g_ofW (cc := cJ7_fill_53178) (lv := [(0, .ref (a 40)), (1, .int p1)]) (by decide +kernel) rfl (Nat.le_of_ble_eq_true rfl) rfl ?_
  intro p e s m args below meth c A Q hA hQ F hr hnm
  have hts := F.2.2.2.2.1
  have rg1 : -2147483648 ≤ s1 ∧ s1 ≤ 2147483647 := e1 ▸ ti_rng p1
  have J_5 : ∀ (fuel : Nat) (x5_2 : Int32) (Gj5 : gS), (2147483647 - x5_2.toInt).toNat < fuel → (0 ≤ x5_2.toInt ∧ x5_2.toInt ≤ 96) → (xI Gj5) → (gu_un xcd [4000] G Gj5) → (∀ q : Nat, (q : Int) < x5_2.toInt → Gj5 40 q = p1) → gG p l e (gR 1 0 0 40) s m args below meth c D A 4 Q 0 0 (xW K a Gj5) (tK K) [(0, .ref (a 40)), (1, .int p1), (2, .int x5_2), (3, .int 96)] 5 [] := by
    intro fuel
    induction fuel with
    | zero => intro x5_2 Gj5 hm; exact absurd hm (Nat.not_lt_zero _)
    | succ fuel_5 ih_5 =>
      intro x5_2 Gj5 hm_5 h5_2 jI5 jU5 fz
      refine g_iload_n F 2 dJ7_fill_53178_5 rfl rfl ?_
      refine g_iload_n F 3 dJ7_fill_53178_6 rfl rfl ?_
      refine v_icmp_ge F 20 dJ7_fill_53178_7 (by decide) x5_2.toInt 96 rfl rfl (fun c1 => ?_) (fun c1 => ?_)
      · exact u_vret F hA hQ hr Gj5 (⟨jI5, (gu_un.tr gu_un.rf (gu_un.su jU5 rfl)), (fun q hq => fz q (by omega))⟩) rfl rfl dJ7_fill_53178_20
      · refine g_aload_n F 0 dJ7_fill_53178_10 rfl rfl ?_
        refine g_iload_n F 2 dJ7_fill_53178_11 rfl rfl ?_
        refine g_iload_n F 1 dJ7_fill_53178_12 rfl rfl ?_
        refine u_iast F 40 0 xc_40 rfl x5_2.toInt rfl (by omega) (by omega) (xW K a (gu_up Gj5 40 (x5_2.toInt).toNat p1)) (xs_40 _) dJ7_fill_53178_13 ?_
        refine u_iinc F (fun v_ => [(2, .int v_), (0, .ref (a 40)), (1, .int p1), (3, .int 96)]) dJ7_fill_53178_14 (j := 2) rfl x5_2.toInt 1 rfl rfl (by omega) (by omega) (by decide) (fun _ => rfl) (fun y2 ey2 => ?_)
        refine g_goto F 5 dJ7_fill_53178_17 (by decide) ?_
        refine g_locals [(0, .ref (a 40)), (1, .int p1), (2, .int y2), (3, .int 96)] [1, 2, 0, 3] rfl ?_
        exact ih_5 y2 (gu_up Gj5 40 (x5_2.toInt).toNat p1) (by omega) (by have h9 := ti_rng y2; omega) (gu_I.up (j := 40) (k := (x5_2.toInt).toNat) (v := p1) jI5 (ti_rng _).1 (ti_rng _).2) (gu_un.up (j := 40) (k := (x5_2.toInt).toNat) (v := p1) (gu_un.tr gu_un.rf (gu_un.su jU5 rfl)) (show (4000 : Nat) ∈ ([4000] : List Nat) by decide)) (pfill_1 (by omega) (by omega) fz)
  refine g_iconst F 0 dJ7_fill_53178_0 (by decide) ?_
  refine g_istore_n F [(2, .int 0), (0, .ref (a 40)), (1, .int p1)] dJ7_fill_53178_1 rfl (by decide) rfl ?_
  refine g_aload_n F 1 dJ7_fill_53178_2 rfl rfl ?_
  refine g_alen F 40 0 xc_40 rfl 96 rfl dJ7_fill_53178_3 ?_
  refine g_istore_n F [(3, .int 96), (2, .int 0), (0, .ref (a 40)), (1, .int p1)] dJ7_fill_53178_4 rfl (by decide) rfl ?_
  refine g_locals [(0, .ref (a 40)), (1, .int p1), (2, .int 0), (3, .int 96)] [2, 3, 1, 0] rfl ?_
  exact J_5 _ 0 G (Nat.lt_succ_self _) (by decide) hI gu_un.rf (fun q h1 => by have h2 : (q : Int) < 0 := h1; omega)

theorem dX6_makeFresh_0 : decode cX6_makeFresh 0 = .ok (.aload_n 0, 1) := by decide +kernel
theorem dX6_makeFresh_1 : decode cX6_makeFresh 1 = .ok (.getfield 9, 3) := by decide +kernel
theorem dX6_makeFresh_4 : decode cX6_makeFresh 4 = .ok (.iload_n 1, 1) := by decide +kernel
theorem dX6_makeFresh_5 : decode cX6_makeFresh 5 = .ok (.invokestatic 28, 3) := by decide +kernel
theorem dX6_makeFresh_8 : decode cX6_makeFresh 8 = .ok (.aload_n 0, 1) := by decide +kernel
theorem dX6_makeFresh_9 : decode cX6_makeFresh 9 = .ok (.getfield 17, 3) := by decide +kernel
theorem dX6_makeFresh_12 : decode cX6_makeFresh 12 = .ok (.iconst 0, 1) := by decide +kernel
theorem dX6_makeFresh_13 : decode cX6_makeFresh 13 = .ok (.aaload, 1) := by decide +kernel
theorem dX6_makeFresh_14 : decode cX6_makeFresh 14 = .ok (.iconst (-1), 1) := by decide +kernel
theorem dX6_makeFresh_15 : decode cX6_makeFresh 15 = .ok (.invokestatic 28, 3) := by decide +kernel
theorem dX6_makeFresh_18 : decode cX6_makeFresh 18 = .ok (.aload_n 0, 1) := by decide +kernel
theorem dX6_makeFresh_19 : decode cX6_makeFresh 19 = .ok (.iconst 0, 1) := by decide +kernel
theorem dX6_makeFresh_20 : decode cX6_makeFresh 20 = .ok (.putfield 34, 3) := by decide +kernel
theorem dX6_makeFresh_23 : decode cX6_makeFresh 23 = .ok (.aload_n 0, 1) := by decide +kernel
theorem dX6_makeFresh_24 : decode cX6_makeFresh 24 = .ok (.iconst 0, 1) := by decide +kernel
theorem dX6_makeFresh_25 : decode cX6_makeFresh 25 = .ok (.putfield 38, 3) := by decide +kernel
theorem dX6_makeFresh_28 : decode cX6_makeFresh 28 = .ok (.return_, 1) := by decide +kernel
set_option maxRecDepth 20000 in
theorem ggX6_makeFresh_J7_fill_53178 : GoodIn wsX6_makeFresh wsJ7_fill_53178 := goodIn_r _ [8] rfl (by decide +kernel)
set_option maxRecDepth 20000 in
theorem gX6_makeFresh_J7_fill_53178 : GoodIn wsX6_makeFresh (va_wsS RX6 28 yJ7_fill_53178 wsJ7_fill_53178) := goodIn_app (goodIn_of _ (by decide +kernel)) ggX6_makeFresh_J7_fill_53178
set_option maxHeartbeats 4000000 in
set_option maxRecDepth 100000 in
theorem S_X6_makeFresh (l : Launch) (D : va_G) (K : Nat → ClassId) (a : Nat → Nat) (G : gS) (p0 : Int32) (s0 : Int) (e0 : p0.toInt = s0) (h0 : 100 ≤ s0 ∧ s0 ≤ 5000) (hI : xI G) (sz : Nat) : Kv l yX6_makeFresh wsX6_makeFresh 2 63 0 0 D [.ref (a 5), .int p0] (xW K a G) (tK K) sz (fun (G' : gS) => (xI G') ∧ (gu_un xcd [503, 504, 3800, 4000] G G') ∧ (pcF p0 (xPc G'))) (fun (G' : gS) => (xW K a G')) (fun _ => (tK K)) := by
  unfold Kv
  refine g_ofW (cc := cX6_makeFresh) (lv := [(0, .ref (a 5)), (1, .int p0)]) (by decide) rfl (Nat.le_of_ble_eq_true rfl) rfl ?_
  intro p e s m args below meth c A Q hA hQ F hr hnm
  have hts := F.2.2.2.2.1
  have w_0 : (Cond.fieldLink RX6 9 "QuietCut$Piece" "heights" "[I").before args s = true := hts _ (List.mem_of_getElem? (i := 1) rfl)
  have i_X6 : ∀ w ∈ u_ws RX6 TX6 5, w ∈ wsX6_makeFresh := fun _ h => List.mem_cons_of_mem _ (List.mem_append_right _ h)
  have w_1 : (Cond.fieldLink RX6 17 "QuietCut$Piece" "left" "[[I").before args s = true := hts _ (List.mem_of_getElem? (i := 2) rfl)
  have w_2 : (Cond.fieldLink RX6 34 "QuietCut$Piece" "wear" "I").before args s = true := hts _ (List.mem_of_getElem? (i := 3) rfl)
  have w_3 : (Cond.fieldLink RX6 38 "QuietCut$Piece" "passes" "I").before args s = true := hts _ (List.mem_of_getElem? (i := 4) rfl)
  refine g_aload_n F 0 dX6_makeFresh_0 rfl rfl ?_
  refine xg_5_1 F i_X6 w_0 dX6_makeFresh_1 ?_
  refine g_iload_n F 1 dX6_makeFresh_4 rfl rfl ?_
  refine u_callSv (k := 0) (n := 0) (As := [.ref (a 38), .int p0]) (st := []) F (fun sz => S_J7_fill_53178_38 l D K a G p0 s0 e0 (by omega) hI sz) (va_cwS 2 hts gX6_makeFresh_J7_fill_53178 rfl rfl rfl (by decide +kernel) ⟨Nat.le_of_ble_eq_true rfl, Nat.le_of_ble_eq_true rfl⟩) rfl (Nat.le_of_ble_eq_true rfl) ⟨Nat.zero_le _, Nat.zero_le _⟩ dX6_makeFresh_5 (fun G3 hw2 => ?_)
  have hI4 : xI G3 := hw2.1
  have hU5 : gu_un xcd [3800] G G3 := hw2.2.1
  have hp6 := hw2.2.2
  have q7 : (∀ q : Nat, q < 96 → G3 38 q = p0) := hp6
  clear hp6 hw2
  refine g_aload_n F 0 dX6_makeFresh_8 rfl rfl ?_
  refine xg_5_4 F i_X6 w_1 dX6_makeFresh_9 ?_
  refine g_iconst F 0 dX6_makeFresh_12 (by decide) ?_
  refine g_aald (b := a 40) F 39 1 xc_39 rfl (ti_in (show Int32.toInt 0 = 0 from rfl) (by decide) (by decide)) (by rw [show Int32.toNatClampNeg 0 = 0 from congrArg Int.toNat (show Int32.toInt 0 = 0 from rfl)]; rfl) dX6_makeFresh_13 ?_
  refine g_iconst F (-1) dX6_makeFresh_14 (by decide) ?_
  refine u_callSv (k := 0) (n := 0) (As := [.ref (a 40), .int (-1)]) (st := []) F (fun sz => S_J7_fill_53178_40 l D K a G3 (-1) (-1) rfl hI4 sz) (va_cwS 2 hts gX6_makeFresh_J7_fill_53178 rfl rfl rfl (by decide +kernel) ⟨Nat.le_of_ble_eq_true rfl, Nat.le_of_ble_eq_true rfl⟩) rfl (Nat.le_of_ble_eq_true rfl) ⟨Nat.zero_le _, Nat.zero_le _⟩ dX6_makeFresh_15 (fun G10 hw9 => ?_)
  have hI11 : xI G10 := hw9.1
  have hU12 : gu_un xcd [4000] G3 G10 := hw9.2.1
  have hp13 := hw9.2.2
  have q14 : (∀ q : Nat, q < 96 → G10 40 q = (-1)) := hp13
  clear hp13 hw9
  refine g_aload_n F 0 dX6_makeFresh_18 rfl rfl ?_
  refine g_iconst F 0 dX6_makeFresh_19 (by decide) ?_
  refine xp_5_2 F i_X6 w_2 dX6_makeFresh_20 ?_
  refine g_aload_n F 0 dX6_makeFresh_23 rfl rfl ?_
  refine g_iconst F 0 dX6_makeFresh_24 (by decide) ?_
  refine xp_5_3 F i_X6 w_3 dX6_makeFresh_25 ?_
  exact u_vret F hA hQ hr (gu_up (gu_up G10 5 2 0) 5 3 0) (⟨(gu_I.up (j := 5) (k := 3) (v := 0) (gu_I.up (j := 5) (k := 2) (v := 0) hI11 (show (0 : Int) ≤ (0 : Int32).toInt by decide) (show (0 : Int32).toInt ≤ 30000 by decide)) (show (0 : Int) ≤ (0 : Int32).toInt by decide) (show (0 : Int32).toInt ≤ 200 by decide)), (gu_un.up (j := 5) (k := 3) (v := 0) (gu_un.up (j := 5) (k := 2) (v := 0) (gu_un.tr (gu_un.tr gu_un.rf (gu_un.su hU5 rfl)) (gu_un.su hU12 rfl)) (show (503 : Nat) ∈ ([503, 504, 3800, 4000] : List Nat) by decide)) (show (504 : Nat) ∈ ([503, 504, 3800, 4000] : List Nat) by decide)), (⟨fun q hq => ⟨(congrFun (show (gu_up (gu_up G10 5 2 0) 5 3 0) 38 = G3 38 from funext fun k_ => (show gu_un xcd [503, 504, 4000] G3 (gu_up (gu_up G10 5 2 0) 5 3 0) from (gu_un.up (j := 5) (k := 3) (v := 0) (gu_un.up (j := 5) (k := 2) (v := 0) (gu_un.tr gu_un.rf (gu_un.su hU12 rfl)) (show (503 : Nat) ∈ ([503, 504, 4000] : List Nat) by decide)) (show (504 : Nat) ∈ ([503, 504, 4000] : List Nat) by decide))) 38 k_ (by simp [xcd])) q).trans (q7 q hq), (congrFun (show (gu_up (gu_up G10 5 2 0) 5 3 0) 40 = G10 40 from funext fun k_ => (show gu_un xcd [503, 504] G10 (gu_up (gu_up G10 5 2 0) 5 3 0) from (gu_un.up (j := 5) (k := 3) (v := 0) (gu_un.up (j := 5) (k := 2) (v := 0) gu_un.rf (show (503 : Nat) ∈ ([503, 504] : List Nat) by decide)) (show (504 : Nat) ∈ ([503, 504] : List Nat) by decide))) 40 k_ (by simp [xcd])) q).trans (q14 q hq)⟩, rfl, rfl⟩)⟩) rfl rfl dX6_makeFresh_28

theorem dX11_piece_0 : decode cX11_piece 0 = .ok (.iload_n 1, 1) := by decide +kernel
theorem dX11_piece_1 : decode cX11_piece 1 = .ok (.invokestatic 144, 3) := by decide +kernel
theorem dX11_piece_4 : decode cX11_piece 4 = .ok (.ifCond .ne 6, 3) := by decide +kernel
theorem dX11_piece_7 : decode cX11_piece 7 = .ok (.bipush (-2), 2) := by decide +kernel
theorem dX11_piece_9 : decode cX11_piece 9 = .ok (.ireturn, 1) := by decide +kernel
theorem dX11_piece_10 : decode cX11_piece 10 = .ok (.aload_n 0, 1) := by decide +kernel
theorem dX11_piece_11 : decode cX11_piece 11 = .ok (.getfield 40, 3) := by decide +kernel
theorem dX11_piece_14 : decode cX11_piece 14 = .ok (.iload_n 1, 1) := by decide +kernel
theorem dX11_piece_15 : decode cX11_piece 15 = .ok (.invokevirtual 117, 3) := by decide +kernel
theorem dX11_piece_18 : decode cX11_piece 18 = .ok (.iconst 1, 1) := by decide +kernel
theorem dX11_piece_19 : decode cX11_piece 19 = .ok (.ireturn, 1) := by decide +kernel
set_option maxRecDepth 20000 in
theorem ggX11_piece_X6_makeFresh : GoodIn wsX11_piece wsX6_makeFresh := goodIn_r _ [9, 10, 11, 12, 13, 14, 15, 16, 17, 32, 33, 34, 35, 36] rfl (by decide +kernel)
set_option maxRecDepth 20000 in
theorem gX11_piece_X6_makeFresh : GoodIn wsX11_piece (wsV RX11 117 RX6 yX6_makeFresh wsX6_makeFresh) := goodIn_app (goodIn_of _ (by decide +kernel)) ggX11_piece_X6_makeFresh
set_option maxRecDepth 20000 in
theorem ggX11_piece_X6_mayBeHigh : GoodIn wsX11_piece wsX6_mayBeHigh := goodIn_r _ [5] rfl (by decide +kernel)
set_option maxRecDepth 20000 in
theorem gX11_piece_X6_mayBeHigh : GoodIn wsX11_piece (va_wsS RX11 144 yX6_mayBeHigh wsX6_mayBeHigh) := goodIn_app (goodIn_of _ (by decide +kernel)) ggX11_piece_X6_mayBeHigh
set_option maxHeartbeats 4000000 in
set_option maxRecDepth 100000 in
theorem S_X11_piece (l : Launch) (D : va_G) (K : Nat → ClassId) (a : Nat → Nat) (G : gS) (p0 : Int32) (s0 : Int) (e0 : p0.toInt = s0) (hI : xI G) (sz : Nat) : Ki l yX11_piece wsX11_piece 3 84 0 0 D [.ref (a 0), .int p0] (xW K a G) (tK K) sz (fun (r : Int32) (G' : gS) => (xI G') ∧ (gu_un xcd [503, 504, 3800, 4000] G G') ∧ ((-2) ≤ r.toInt ∧ r.toInt ≤ 1) ∧ (((r.toInt = 1 ∧ 100 ≤ s0 ∧ s0 ≤ 5000) ∨ (r.toInt = -2 ∧ (s0 < 100 ∨ 5000 < s0)))) ∧ (((r.toInt = 1 ∧ pcF p0 (xPc G')) ∨ (r.toInt = -2 ∧ pcB (xPc G) (xPc G'))))) (fun (G' : gS) => (xW K a G')) (fun _ => (tK K)) := by
  unfold Ki
  refine g_ofW (cc := cX11_piece) (lv := [(0, .ref (a 0)), (1, .int p0)]) (by decide) rfl (Nat.le_of_ble_eq_true rfl) rfl ?_
  intro p e s m args below meth c A Q hA hQ F hr hnm
  have hts := F.2.2.2.2.1
  have w_0 : (Cond.fieldLink RX11 40 "QuietCut" "piece" "LQuietCut$Piece;").before args s = true := hts _ (List.mem_of_getElem? (i := 1) rfl)
  have i_X11 : ∀ w ∈ u_ws RX11 TX11 14, w ∈ wsX11_piece := fun _ h => List.mem_cons_of_mem _ (List.mem_append_left _ (List.mem_append_right _ h))
  have rg0 : -2147483648 ≤ s0 ∧ s0 ≤ 2147483647 := e0 ▸ ti_rng p0
  refine g_iload_n F 1 dX11_piece_0 rfl rfl ?_
  refine u_call0 (k := 0) (n := 0) (As := [.int p0]) (st := []) F (fun sz => S_X6_mayBeHigh l D p0 s0 e0 sz) (va_cwS 1 hts gX11_piece_X6_mayBeHigh rfl rfl rfl (by decide +kernel) ⟨Nat.le_of_ble_eq_true rfl, Nat.le_of_ble_eq_true rfl⟩) rfl (Nat.le_of_ble_eq_true rfl) ⟨Nat.zero_le _, Nat.zero_le _⟩ dX11_piece_1 (fun r1 _ hw2 => ?_)
  rcases hw2 with ⟨rfl, q4⟩ | ⟨rfl, q5⟩
  · refine v_if_ne F 10 dX11_piece_4 (by decide) 1 rfl (fun c6 => ?_) (fun c6 => absurd c6 (by decide))
    refine g_aload_n F 0 dX11_piece_10 rfl rfl ?_
    refine xg_0_4 F i_X11 w_0 dX11_piece_11 ?_
    refine g_iload_n F 1 dX11_piece_14 rfl rfl ?_
    refine u_callVv (k := 0) (n := 0) (b := a 5) (As := [.int p0]) (st := []) F (fun sz => S_X6_makeFresh l D K a G p0 s0 e0 (by omega) hI sz) (cwV 1 hts gX11_piece_X6_makeFresh rfl rfl rfl (by decide +kernel) ⟨Nat.le_of_ble_eq_true rfl, Nat.le_of_ble_eq_true rfl⟩) rfl 5 xc_5 rfl (Nat.le_of_ble_eq_true rfl) ⟨Nat.zero_le _, Nat.zero_le _⟩ dX11_piece_15 (fun G9 hw8 => ?_)
    have hI10 : xI G9 := hw8.1
    have hU11 : gu_un xcd [503, 504, 3800, 4000] G G9 := hw8.2.1
    have hp12 := hw8.2.2
    have q13 : pcF p0 (xPc G9) := hp12
    clear hp12 hw8
    refine g_iconst F 1 dX11_piece_18 (by decide) ?_
    exact u_iret F hA hQ hr G9 (⟨hI10, (gu_un.tr gu_un.rf (gu_un.su hU11 rfl)), (by decide), (by show ((1 = 1 ∧ 100 ≤ s0 ∧ s0 ≤ 5000) ∨ (1 = -2 ∧ (s0 < 100 ∨ 5000 < s0))); (first | omega | (simp only [Int32.reduceToInt, true_and, and_true, ne_eq, not_true_eq_false, false_and, or_false, false_or, true_or, or_true, false_implies] <;> omega))), (Or.inl ⟨by decide, q13⟩)⟩) rfl rfl dX11_piece_19
  · refine v_if_ne F 10 dX11_piece_4 (by decide) 0 rfl (fun c14 => absurd c14 (by decide)) (fun c14 => ?_)
    refine g_bipush F (-2) dX11_piece_7 (by decide) ?_
    exact u_iret F hA hQ hr G (⟨hI, gu_un.rf, (by decide), (by show (((-2) = 1 ∧ 100 ≤ s0 ∧ s0 ≤ 5000) ∨ ((-2) = -2 ∧ (s0 < 100 ∨ 5000 < s0))); (first | omega | (simp only [Int32.reduceToInt, true_and, and_true, ne_eq, not_true_eq_false, false_and, or_false, false_or, true_or, or_true, false_implies] <;> omega))), (Or.inr ⟨by decide, pcB.rf⟩)⟩) rfl rfl dX11_piece_9

theorem dX6_placeOf_0 : decode cX6_placeOf 0 = .ok (.iload_n 0, 1) := by decide +kernel
theorem dX6_placeOf_1 : decode cX6_placeOf 1 = .ok (.bipush 16, 2) := by decide +kernel
theorem dX6_placeOf_3 : decode cX6_placeOf 3 = .ok (.imul, 1) := by decide +kernel
theorem dX6_placeOf_4 : decode cX6_placeOf 4 = .ok (.iload_n 1, 1) := by decide +kernel
theorem dX6_placeOf_5 : decode cX6_placeOf 5 = .ok (.iadd, 1) := by decide +kernel
theorem dX6_placeOf_6 : decode cX6_placeOf 6 = .ok (.ireturn, 1) := by decide +kernel
set_option maxHeartbeats 4000000 in
set_option maxRecDepth 100000 in
theorem S_X6_placeOf_b5_b15 (l : Launch) (D : va_G)  (p0 : Int32) (s0 : Int) (p1 : Int32) (s1 : Int) (e0 : p0.toInt = s0) (h0 : 0 ≤ s0 ∧ s0 ≤ 5) (e1 : p1.toInt = s1) (h1 : 0 ≤ s1 ∧ s1 ≤ 15) (sz : Nat) : Ki l yX6_placeOf wsX6_placeOf 1 40 0 0 D [.int p0, .int p1] [] [] sz (fun (r : Int32) (_ : Unit) => (0 ≤ r.toInt ∧ r.toInt ≤ 95) ∧ (r.toInt = s0 * 16 + s1)) (fun (_ : Unit) => []) (fun _ => []) := by
  unfold Ki
  refine g_ofW (cc := cX6_placeOf) (lv := [(0, .int p0), (1, .int p1)]) (by decide) rfl (Nat.le_of_ble_eq_true rfl) rfl ?_
  intro p e s m args below meth c A Q hA hQ F hr hnm
  have hts := F.2.2.2.2.1
  refine g_iload_n F 0 dX6_placeOf_0 rfl rfl ?_
  refine g_bipush F 16 dX6_placeOf_1 (by decide) ?_
  refine u_imul F dX6_placeOf_3 s0 16 e0 rfl (by omega) (by omega) (fun y1 ey1 => ?_)
  refine g_iload_n F 1 dX6_placeOf_4 rfl rfl ?_
  refine u_iadd F dX6_placeOf_5 y1.toInt s1 rfl e1 (by omega) (by omega) (fun y2 ey2 => ?_)
  exact u_iret F hA hQ hr () (⟨(by have h9 := ti_rng y2; omega), (by omega)⟩) rfl rfl dX6_placeOf_6

theorem dX11_height_0 : decode cX11_height 0 = .ok (.aload_n 0, 1) := by decide +kernel
theorem dX11_height_1 : decode cX11_height 1 = .ok (.getfield 40, 3) := by decide +kernel
theorem dX11_height_4 : decode cX11_height 4 = .ok (.iload_n 1, 1) := by decide +kernel
theorem dX11_height_5 : decode cX11_height 5 = .ok (.iload_n 2, 1) := by decide +kernel
theorem dX11_height_6 : decode cX11_height 6 = .ok (.invokevirtual 147, 3) := by decide +kernel
theorem dX11_height_9 : decode cX11_height 9 = .ok (.ifCond .eq 19, 3) := by decide +kernel
theorem dX11_height_12 : decode cX11_height 12 = .ok (.aload_n 0, 1) := by decide +kernel
theorem dX11_height_13 : decode cX11_height 13 = .ok (.getfield 40, 3) := by decide +kernel
theorem dX11_height_16 : decode cX11_height 16 = .ok (.getfield 151, 3) := by decide +kernel
theorem dX11_height_19 : decode cX11_height 19 = .ok (.iload_n 1, 1) := by decide +kernel
theorem dX11_height_20 : decode cX11_height 20 = .ok (.iload_n 2, 1) := by decide +kernel
theorem dX11_height_21 : decode cX11_height 21 = .ok (.invokestatic 154, 3) := by decide +kernel
theorem dX11_height_24 : decode cX11_height 24 = .ok (.iaload, 1) := by decide +kernel
theorem dX11_height_25 : decode cX11_height 25 = .ok (.goto 5, 3) := by decide +kernel
theorem dX11_height_28 : decode cX11_height 28 = .ok (.ldc 157, 2) := by decide +kernel
theorem dX11_height_30 : decode cX11_height 30 = .ok (.ireturn, 1) := by decide +kernel
set_option maxRecDepth 20000 in
theorem ggX11_height_X6_has : GoodIn wsX11_height wsX6_has := goodIn_r _ [8, 9, 10, 11, 12, 13, 14, 15, 16, 34, 35, 36, 37, 38, 39, 40, 41, 42] rfl (by decide +kernel)
set_option maxRecDepth 20000 in
theorem gX11_height_X6_has : GoodIn wsX11_height (wsV RX11 147 RX6 yX6_has wsX6_has) := goodIn_app (goodIn_of _ (by decide +kernel)) ggX11_height_X6_has
set_option maxRecDepth 20000 in
theorem ggX11_height_X6_placeOf : GoodIn wsX11_height wsX6_placeOf := goodIn_r _ [19] rfl (by decide +kernel)
set_option maxRecDepth 20000 in
theorem gX11_height_X6_placeOf : GoodIn wsX11_height (va_wsS RX11 154 yX6_placeOf wsX6_placeOf) := goodIn_app (goodIn_of _ (by decide +kernel)) ggX11_height_X6_placeOf
set_option maxHeartbeats 4000000 in
set_option maxRecDepth 100000 in
theorem S_X11_height (l : Launch) (D : va_G) (K : Nat → ClassId) (a : Nat → Nat) (G : gS) (p0 : Int32) (s0 : Int) (p1 : Int32) (s1 : Int) (e0 : p0.toInt = s0) (e1 : p1.toInt = s1) (hI : xI G) (sz : Nat) : Ki l yX11_height wsX11_height 3 83 0 0 D [.ref (a 0), .int p0, .int p1] (xW K a G) (tK K) sz (fun (r : Int32) (_ : Unit) => ((-100000) ≤ r.toInt ∧ r.toInt ≤ 5000) ∧ ((((0 ≤ s0 ∧ s0 < (G 18 1).toInt ∧ 0 ≤ s1 ∧ s1 < (G 18 0).toInt) ∧ r.toInt = ((G 38) (s0 * 16 + s1).toNat).toInt) ∨ (¬ (0 ≤ s0 ∧ s0 < (G 18 1).toInt ∧ 0 ≤ s1 ∧ s1 < (G 18 0).toInt) ∧ r.toInt = -100000)))) (fun (_ : Unit) => (xW K a G)) (fun _ => (tK K)) := by
  unfold Ki
  refine g_ofW (cc := cX11_height) (lv := [(0, .ref (a 0)), (1, .int p0), (2, .int p1)]) (by decide) rfl (Nat.le_of_ble_eq_true rfl) rfl ?_
  intro p e s m args below meth c A Q hA hQ F hr hnm
  have hts := F.2.2.2.2.1
  have w_0 : (Cond.fieldLink RX11 40 "QuietCut" "piece" "LQuietCut$Piece;").before args s = true := hts _ (List.mem_of_getElem? (i := 1) rfl)
  have i_X11 : ∀ w ∈ u_ws RX11 TX11 14, w ∈ wsX11_height := fun _ h => List.mem_cons_of_mem _ (List.mem_append_left _ (List.mem_append_left _ (List.mem_append_right _ h)))
  have w_1 : (Cond.fieldLink RX11 151 "QuietCut$Piece" "heights" "[I").before args s = true := hts _ (List.mem_of_getElem? (i := 2) rfl)
  have i_X6 : ∀ w ∈ u_ws RX6 TX6 5, w ∈ wsX11_height := fun _ h => List.mem_cons_of_mem _ (List.mem_append_left _ (List.mem_append_right _ h))
  have w_2 : (Cond.constant RX11 157 (-100000)).before args s = true := hts _ (List.mem_of_getElem? (i := 3) rfl)
  have rg0 : -2147483648 ≤ s0 ∧ s0 ≤ 2147483647 := e0 ▸ ti_rng p0
  have rg1 : -2147483648 ≤ s1 ∧ s1 ≤ 2147483647 := e1 ▸ ti_rng p1
  have b1 : (4 : Int) ≤ (G 18 0).toInt ∧ (G 18 0).toInt ≤ 16 := hI 18 0
  have b2 : (1 : Int) ≤ (G 18 1).toInt ∧ (G 18 1).toInt ≤ 6 := hI 18 1
  refine g_aload_n F 0 dX11_height_0 rfl rfl ?_
  refine xg_0_4 F i_X11 w_0 dX11_height_1 ?_
  refine g_iload_n F 1 dX11_height_4 rfl rfl ?_
  refine g_iload_n F 2 dX11_height_5 rfl rfl ?_
  refine u_callVi (k := 0) (n := 0) (b := a 5) (As := [.int p0, .int p1]) (st := []) F (fun sz => S_X6_has l D K a G p0 s0 p1 s1 e0 e1 hI sz) (cwV 2 hts gX11_height_X6_has rfl rfl rfl (by decide +kernel) ⟨Nat.le_of_ble_eq_true rfl, Nat.le_of_ble_eq_true rfl⟩) rfl 5 xc_5 rfl (Nat.le_of_ble_eq_true rfl) ⟨Nat.zero_le _, Nat.zero_le _⟩ dX11_height_6 (fun r3 _ hw4 => ?_)
  rcases hw4 with ⟨rfl, q6⟩ | ⟨rfl, q7⟩
  · have q6 : (0 ≤ s0 ∧ s0 < (G 18 1).toInt ∧ 0 ≤ s1 ∧ s1 < (G 18 0).toInt) := q6
    refine v_if_eq F 28 dX11_height_9 (by decide) 1 rfl (fun c8 => absurd c8 (by decide)) (fun c8 => ?_)
    refine g_aload_n F 0 dX11_height_12 rfl rfl ?_
    refine xg_0_4 F i_X11 w_0 dX11_height_13 ?_
    refine xg_5_1 F i_X6 w_1 dX11_height_16 ?_
    refine g_iload_n F 1 dX11_height_19 rfl rfl ?_
    refine g_iload_n F 2 dX11_height_20 rfl rfl ?_
    refine u_call0 (k := 0) (n := 0) (As := [.int p0, .int p1]) (st := [.ref (a 38)]) F (fun sz => S_X6_placeOf_b5_b15 l D p0 s0 p1 s1 e0 (by omega) e1 (by omega) sz) (va_cwS 2 hts gX11_height_X6_placeOf rfl rfl rfl (by decide +kernel) ⟨Nat.le_of_ble_eq_true rfl, Nat.le_of_ble_eq_true rfl⟩) rfl (Nat.le_of_ble_eq_true rfl) ⟨Nat.zero_le _, Nat.zero_le _⟩ dX11_height_21 (fun r9 _ hw10 => ?_)
    have rg12 := hw10.1
    have rg13 := hw10.2
    clear hw10
    refine u1_iald F 38 0 xc_38 rfl r9.toInt rfl (by omega) (by omega) dX11_height_24 ((G 38) ((s0 * 16 + s1)).toNat) (by rw [show r9.toInt = (s0 * 16 + s1) by omega] <;> rfl) ?_
    have b14 : ((-9998) : Int) ≤ ((G 38) ((s0 * 16 + s1)).toNat).toInt ∧ ((G 38) ((s0 * 16 + s1)).toNat).toInt ≤ 5000 := hI 38 _
    refine g_goto F 30 dX11_height_25 (by decide) ?_
    exact u_iret F hA hQ hr () (⟨(by have h9 := ti_rng ((G 38) ((s0 * 16 + s1)).toNat); omega), (by show (((0 ≤ s0 ∧ s0 < (G 18 1).toInt ∧ 0 ≤ s1 ∧ s1 < (G 18 0).toInt) ∧ ((G 38) ((s0 * 16 + s1)).toNat).toInt = ((G 38) (s0 * 16 + s1).toNat).toInt) ∨ (¬ (0 ≤ s0 ∧ s0 < (G 18 1).toInt ∧ 0 ≤ s1 ∧ s1 < (G 18 0).toInt) ∧ ((G 38) ((s0 * 16 + s1)).toNat).toInt = -100000)); (first | omega | (simp only [Int32.reduceToInt, true_and, and_true, ne_eq, not_true_eq_false, false_and, or_false, false_or, true_or, or_true, false_implies] <;> omega)))⟩) rfl rfl dX11_height_30
  · have q7 : ¬ (0 ≤ s0 ∧ s0 < (G 18 1).toInt ∧ 0 ≤ s1 ∧ s1 < (G 18 0).toInt) := q7
    refine v_if_eq F 28 dX11_height_9 (by decide) 0 rfl (fun c15 => ?_) (fun c15 => absurd c15 (by decide))
    refine g_ldc F w_2 dX11_height_28 ?_
    exact u_iret F hA hQ hr () (⟨(by decide), (by show (((0 ≤ s0 ∧ s0 < (G 18 1).toInt ∧ 0 ≤ s1 ∧ s1 < (G 18 0).toInt) ∧ (-100000) = ((G 38) (s0 * 16 + s1).toNat).toInt) ∨ (¬ (0 ≤ s0 ∧ s0 < (G 18 1).toInt ∧ 0 ≤ s1 ∧ s1 < (G 18 0).toInt) ∧ (-100000) = -100000)); (first | omega | (simp only [Int32.reduceToInt, true_and, and_true, ne_eq, not_true_eq_false, false_and, or_false, false_or, true_or, or_true, false_implies] <;> omega)))⟩) rfl rfl dX11_height_30

theorem dX11_set_0 : decode cX11_set 0 = .ok (.aload_n 0, 1) := by decide +kernel
theorem dX11_set_1 : decode cX11_set 1 = .ok (.getfield 40, 3) := by decide +kernel
theorem dX11_set_4 : decode cX11_set 4 = .ok (.iload_n 1, 1) := by decide +kernel
theorem dX11_set_5 : decode cX11_set 5 = .ok (.iload_n 2, 1) := by decide +kernel
theorem dX11_set_6 : decode cX11_set 6 = .ok (.invokevirtual 147, 3) := by decide +kernel
theorem dX11_set_9 : decode cX11_set 9 = .ok (.ifCond .eq 10, 3) := by decide +kernel
theorem dX11_set_12 : decode cX11_set 12 = .ok (.iload_n 3, 1) := by decide +kernel
theorem dX11_set_13 : decode cX11_set 13 = .ok (.invokestatic 144, 3) := by decide +kernel
theorem dX11_set_16 : decode cX11_set 16 = .ok (.ifCond .ne 6, 3) := by decide +kernel
theorem dX11_set_19 : decode cX11_set 19 = .ok (.ldc 157, 2) := by decide +kernel
theorem dX11_set_21 : decode cX11_set 21 = .ok (.ireturn, 1) := by decide +kernel
theorem dX11_set_22 : decode cX11_set 22 = .ok (.aload_n 0, 1) := by decide +kernel
theorem dX11_set_23 : decode cX11_set 23 = .ok (.getfield 40, 3) := by decide +kernel
theorem dX11_set_26 : decode cX11_set 26 = .ok (.iload_n 1, 1) := by decide +kernel
theorem dX11_set_27 : decode cX11_set 27 = .ok (.iload_n 2, 1) := by decide +kernel
theorem dX11_set_28 : decode cX11_set 28 = .ok (.invokestatic 154, 3) := by decide +kernel
theorem dX11_set_31 : decode cX11_set 31 = .ok (.iload_n 3, 1) := by decide +kernel
theorem dX11_set_32 : decode cX11_set 32 = .ok (.invokevirtual 158, 3) := by decide +kernel
theorem dX11_set_35 : decode cX11_set 35 = .ok (.ireturn, 1) := by decide +kernel
set_option maxRecDepth 20000 in
theorem ggX11_set_X6_has : GoodIn wsX11_set wsX6_has := goodIn_r _ [7, 8, 9, 10, 11, 12, 13, 14, 15, 43, 44, 45, 46, 47, 48, 49, 50, 51] rfl (by decide +kernel)
set_option maxRecDepth 20000 in
theorem gX11_set_X6_has : GoodIn wsX11_set (wsV RX11 147 RX6 yX6_has wsX6_has) := goodIn_app (goodIn_of _ (by decide +kernel)) ggX11_set_X6_has
set_option maxRecDepth 20000 in
theorem ggX11_set_X6_mayBeHigh : GoodIn wsX11_set wsX6_mayBeHigh := goodIn_r _ [18] rfl (by decide +kernel)
set_option maxRecDepth 20000 in
theorem gX11_set_X6_mayBeHigh : GoodIn wsX11_set (va_wsS RX11 144 yX6_mayBeHigh wsX6_mayBeHigh) := goodIn_app (goodIn_of _ (by decide +kernel)) ggX11_set_X6_mayBeHigh
set_option maxRecDepth 20000 in
theorem ggX11_set_X6_placeOf : GoodIn wsX11_set wsX6_placeOf := goodIn_r _ [21] rfl (by decide +kernel)
set_option maxRecDepth 20000 in
theorem gX11_set_X6_placeOf : GoodIn wsX11_set (va_wsS RX11 154 yX6_placeOf wsX6_placeOf) := goodIn_app (goodIn_of _ (by decide +kernel)) ggX11_set_X6_placeOf
set_option maxRecDepth 20000 in
theorem ggX11_set_X6_putByHand : GoodIn wsX11_set wsX6_putByHand := goodIn_r _ [25, 26, 27, 28, 43, 44, 45, 46, 47] rfl (by decide +kernel)
set_option maxRecDepth 20000 in
theorem gX11_set_X6_putByHand : GoodIn wsX11_set (wsV RX11 158 RX6 yX6_putByHand wsX6_putByHand) := goodIn_app (goodIn_of _ (by decide +kernel)) ggX11_set_X6_putByHand
set_option maxHeartbeats 4000000 in
set_option maxRecDepth 100000 in
theorem S_X11_set (l : Launch) (D : va_G) (K : Nat → ClassId) (a : Nat → Nat) (G : gS) (p0 : Int32) (s0 : Int) (p1 : Int32) (s1 : Int) (p2 : Int32) (s2 : Int) (e0 : p0.toInt = s0) (e1 : p1.toInt = s1) (e2 : p2.toInt = s2) (hI : xI G) (sz : Nat) : Ki l yX11_set wsX11_set 3 83 0 0 D [.ref (a 0), .int p0, .int p1, .int p2] (xW K a G) (tK K) sz (fun (r : Int32) (G' : gS) => (xI G') ∧ (gu_un xcd [3800, 4000] G G') ∧ ((-100000) ≤ r.toInt ∧ r.toInt ≤ 5000) ∧ ((((0 ≤ s0 ∧ s0 < (G 18 1).toInt ∧ 0 ≤ s1 ∧ s1 < (G 18 0).toInt) ∧ 100 ≤ s2 ∧ s2 ≤ 5000 ∧ r.toInt = ((G 38) (s0 * 16 + s1).toNat).toInt ∧ pcU (s0 * 16 + s1).toNat p2 (xPc G) (xPc G')) ∨ (¬ ((0 ≤ s0 ∧ s0 < (G 18 1).toInt ∧ 0 ≤ s1 ∧ s1 < (G 18 0).toInt) ∧ 100 ≤ s2 ∧ s2 ≤ 5000) ∧ r.toInt = -100000 ∧ pcB (xPc G) (xPc G'))))) (fun (G' : gS) => (xW K a G')) (fun _ => (tK K)) := by
  unfold Ki
  refine g_ofW (cc := cX11_set) (lv := [(0, .ref (a 0)), (1, .int p0), (2, .int p1), (3, .int p2)]) (by decide) rfl (Nat.le_of_ble_eq_true rfl) rfl ?_
  intro p e s m args below meth c A Q hA hQ F hr hnm
  have hts := F.2.2.2.2.1
  have w_0 : (Cond.fieldLink RX11 40 "QuietCut" "piece" "LQuietCut$Piece;").before args s = true := hts _ (List.mem_of_getElem? (i := 1) rfl)
  have i_X11 : ∀ w ∈ u_ws RX11 TX11 14, w ∈ wsX11_set := fun _ h => List.mem_cons_of_mem _ (List.mem_append_left _ (List.mem_append_left _ (List.mem_append_right _ h)))
  have w_1 : (Cond.constant RX11 157 (-100000)).before args s = true := hts _ (List.mem_of_getElem? (i := 2) rfl)
  have rg0 : -2147483648 ≤ s0 ∧ s0 ≤ 2147483647 := e0 ▸ ti_rng p0
  have rg1 : -2147483648 ≤ s1 ∧ s1 ≤ 2147483647 := e1 ▸ ti_rng p1
  have rg2 : -2147483648 ≤ s2 ∧ s2 ≤ 2147483647 := e2 ▸ ti_rng p2
  have b1 : (4 : Int) ≤ (G 18 0).toInt ∧ (G 18 0).toInt ≤ 16 := hI 18 0
  have b2 : (1 : Int) ≤ (G 18 1).toInt ∧ (G 18 1).toInt ≤ 6 := hI 18 1
  refine g_aload_n F 0 dX11_set_0 rfl rfl ?_
  refine xg_0_4 F i_X11 w_0 dX11_set_1 ?_
  refine g_iload_n F 1 dX11_set_4 rfl rfl ?_
  refine g_iload_n F 2 dX11_set_5 rfl rfl ?_
  refine u_callVi (k := 0) (n := 0) (b := a 5) (As := [.int p0, .int p1]) (st := []) F (fun sz => S_X6_has l D K a G p0 s0 p1 s1 e0 e1 hI sz) (cwV 2 hts gX11_set_X6_has rfl rfl rfl (by decide +kernel) ⟨Nat.le_of_ble_eq_true rfl, Nat.le_of_ble_eq_true rfl⟩) rfl 5 xc_5 rfl (Nat.le_of_ble_eq_true rfl) ⟨Nat.zero_le _, Nat.zero_le _⟩ dX11_set_6 (fun r3 _ hw4 => ?_)
  rcases hw4 with ⟨rfl, q6⟩ | ⟨rfl, q7⟩
  · have q6 : (0 ≤ s0 ∧ s0 < (G 18 1).toInt ∧ 0 ≤ s1 ∧ s1 < (G 18 0).toInt) := q6
    refine v_if_eq F 19 dX11_set_9 (by decide) 1 rfl (fun c8 => absurd c8 (by decide)) (fun c8 => ?_)
    refine g_iload_n F 3 dX11_set_12 rfl rfl ?_
    refine u_call0 (k := 0) (n := 0) (As := [.int p2]) (st := []) F (fun sz => S_X6_mayBeHigh l D p2 s2 e2 sz) (va_cwS 1 hts gX11_set_X6_mayBeHigh rfl rfl rfl (by decide +kernel) ⟨Nat.le_of_ble_eq_true rfl, Nat.le_of_ble_eq_true rfl⟩) rfl (Nat.le_of_ble_eq_true rfl) ⟨Nat.zero_le _, Nat.zero_le _⟩ dX11_set_13 (fun r9 _ hw10 => ?_)
    rcases hw10 with ⟨rfl, q12⟩ | ⟨rfl, q13⟩
    · refine v_if_ne F 22 dX11_set_16 (by decide) 1 rfl (fun c14 => ?_) (fun c14 => absurd c14 (by decide))
      refine g_aload_n F 0 dX11_set_22 rfl rfl ?_
      refine xg_0_4 F i_X11 w_0 dX11_set_23 ?_
      refine g_iload_n F 1 dX11_set_26 rfl rfl ?_
      refine g_iload_n F 2 dX11_set_27 rfl rfl ?_
      refine u_call0 (k := 0) (n := 0) (As := [.int p0, .int p1]) (st := [.ref (a 5)]) F (fun sz => S_X6_placeOf_b5_b15 l D p0 s0 p1 s1 e0 (by omega) e1 (by omega) sz) (va_cwS 2 hts gX11_set_X6_placeOf rfl rfl rfl (by decide +kernel) ⟨Nat.le_of_ble_eq_true rfl, Nat.le_of_ble_eq_true rfl⟩) rfl (Nat.le_of_ble_eq_true rfl) ⟨Nat.zero_le _, Nat.zero_le _⟩ dX11_set_28 (fun r15 _ hw16 => ?_)
      have rg18 := hw16.1
      have rg19 := hw16.2
      clear hw16
      refine g_iload_n F 3 dX11_set_31 rfl rfl ?_
      refine u_callVi (k := 0) (n := 0) (b := a 5) (As := [.int r15, .int p2]) (st := []) F (fun sz => S_X6_putByHand l D K a G r15 r15.toInt p2 s2 rfl (by omega) e2 (by omega) hI sz) (cwV 2 hts gX11_set_X6_putByHand rfl rfl rfl (by decide +kernel) ⟨Nat.le_of_ble_eq_true rfl, Nat.le_of_ble_eq_true rfl⟩) rfl 5 xc_5 rfl (Nat.le_of_ble_eq_true rfl) ⟨Nat.zero_le _, Nat.zero_le _⟩ dX11_set_32 (fun r20 G22 hw21 => ?_)
      have hI23 : xI G22 := hw21.1
      have hU24 : gu_un xcd [3800, 4000] G G22 := hw21.2.1
      have hp25 := hw21.2.2
      have q26 : (r20.toInt = ((G 38) (r15.toInt).toNat).toInt ∧ pcU (r15.toInt).toNat p2 (xPc G) (xPc G22)) := hp25.2
      have rg27 := hp25.1
      clear hp25 hw21
      exact u_iret F hA hQ hr G22 (⟨hI23, (gu_un.tr gu_un.rf (gu_un.su hU24 rfl)), (by have h9 := ti_rng r20; omega), (Or.inl ⟨by omega, by omega, by omega, by have h9 := q26; rw [show r15.toInt = s0 * 16 + s1 by omega] at h9; exact h9⟩)⟩) rfl rfl dX11_set_35
    · refine v_if_ne F 22 dX11_set_16 (by decide) 0 rfl (fun c28 => absurd c28 (by decide)) (fun c28 => ?_)
      refine g_ldc F w_1 dX11_set_19 ?_
      exact u_iret F hA hQ hr G (⟨hI, gu_un.rf, (by decide), (Or.inr ⟨by omega, by decide, pcB.rf⟩)⟩) rfl rfl dX11_set_21
  · have q7 : ¬ (0 ≤ s0 ∧ s0 < (G 18 1).toInt ∧ 0 ≤ s1 ∧ s1 < (G 18 0).toInt) := q7
    refine v_if_eq F 19 dX11_set_9 (by decide) 0 rfl (fun c29 => ?_) (fun c29 => absurd c29 (by decide))
    refine g_ldc F w_1 dX11_set_19 ?_
    exact u_iret F hA hQ hr G (⟨hI, gu_un.rf, (by decide), (Or.inr ⟨by omega, by decide, pcB.rf⟩)⟩) rfl rfl dX11_set_21

theorem dX11_change_0 : decode cX11_change 0 = .ok (.aload_n 0, 1) := by decide +kernel
theorem dX11_change_1 : decode cX11_change 1 = .ok (.getfield 40, 3) := by decide +kernel
theorem dX11_change_4 : decode cX11_change 4 = .ok (.getfield 161, 3) := by decide +kernel
theorem dX11_change_7 : decode cX11_change 7 = .ok (.istore_n 1, 1) := by decide +kernel
theorem dX11_change_8 : decode cX11_change 8 = .ok (.aload_n 0, 1) := by decide +kernel
theorem dX11_change_9 : decode cX11_change 9 = .ok (.getfield 40, 3) := by decide +kernel
theorem dX11_change_12 : decode cX11_change 12 = .ok (.iconst 0, 1) := by decide +kernel
theorem dX11_change_13 : decode cX11_change 13 = .ok (.putfield 161, 3) := by decide +kernel
theorem dX11_change_16 : decode cX11_change 16 = .ok (.iload_n 1, 1) := by decide +kernel
theorem dX11_change_17 : decode cX11_change 17 = .ok (.ireturn, 1) := by decide +kernel
set_option maxHeartbeats 4000000 in
set_option maxRecDepth 100000 in
theorem S_X11_change (l : Launch) (D : va_G) (K : Nat → ClassId) (a : Nat → Nat) (G : gS) (hI : xI G) (sz : Nat) : Ki l yX11_change wsX11_change 1 40 0 0 D [.ref (a 0)] (xW K a G) (tK K) sz (fun (r : Int32) (G' : gS) => (xI G') ∧ (gu_un xcd [503] G G') ∧ (0 ≤ r.toInt ∧ r.toInt ≤ 30000) ∧ ((r.toInt = (G 5 2).toInt ∧ pcW 0 (xPc G) (xPc G')))) (fun (G' : gS) => (xW K a G')) (fun _ => (tK K)) := by
  unfold Ki
  refine g_ofW (cc := cX11_change) (lv := [(0, .ref (a 0))]) (by decide) rfl (Nat.le_of_ble_eq_true rfl) rfl ?_
  intro p e s m args below meth c A Q hA hQ F hr hnm
  have hts := F.2.2.2.2.1
  have w_0 : (Cond.fieldLink RX11 40 "QuietCut" "piece" "LQuietCut$Piece;").before args s = true := hts _ (List.mem_of_getElem? (i := 1) rfl)
  have i_X11 : ∀ w ∈ u_ws RX11 TX11 14, w ∈ wsX11_change := fun _ h => List.mem_cons_of_mem _ (List.mem_append_left _ (List.mem_append_right _ h))
  have w_1 : (Cond.fieldLink RX11 161 "QuietCut$Piece" "wear" "I").before args s = true := hts _ (List.mem_of_getElem? (i := 2) rfl)
  have i_X6 : ∀ w ∈ u_ws RX6 TX6 5, w ∈ wsX11_change := fun _ h => List.mem_cons_of_mem _ (List.mem_append_right _ h)
  have b1 : (0 : Int) ≤ (G 5 2).toInt ∧ (G 5 2).toInt ≤ 30000 := hI 5 2
  refine g_aload_n F 0 dX11_change_0 rfl rfl ?_
  refine xg_0_4 F i_X11 w_0 dX11_change_1 ?_
  refine xg_5_2 F i_X6 w_1 dX11_change_4 (G 5 2) (rfl) ?_
  refine g_istore_n F [(1, .int (G 5 2)), (0, .ref (a 0))] dX11_change_7 rfl (by decide) rfl ?_
  refine g_aload_n F 1 dX11_change_8 rfl rfl ?_
  refine xg_0_4 F i_X11 w_0 dX11_change_9 ?_
  refine g_iconst F 0 dX11_change_12 (by decide) ?_
  refine xp_5_2 F i_X6 w_1 dX11_change_13 ?_
  refine g_iload_n F 0 dX11_change_16 rfl rfl ?_
  exact u_iret F hA hQ hr (gu_up G 5 2 0) (⟨(gu_I.up (j := 5) (k := 2) (v := 0) hI (show (0 : Int) ≤ (0 : Int32).toInt by decide) (show (0 : Int32).toInt ≤ 30000 by decide)), (gu_un.up (j := 5) (k := 2) (v := 0) gu_un.rf (show (503 : Nat) ∈ ([503] : List Nat) by decide)), (by have h9 := ti_rng (G 5 2); omega), (⟨rfl, fun q => ⟨rfl, rfl, rfl, rfl, rfl⟩, rfl, rfl⟩)⟩) rfl rfl dX11_change_17

theorem dX11_left_0 : decode cX11_left 0 = .ok (.aload_n 0, 1) := by decide +kernel
theorem dX11_left_1 : decode cX11_left 1 = .ok (.getfield 40, 3) := by decide +kernel
theorem dX11_left_4 : decode cX11_left 4 = .ok (.iload_n 1, 1) := by decide +kernel
theorem dX11_left_5 : decode cX11_left 5 = .ok (.iload_n 2, 1) := by decide +kernel
theorem dX11_left_6 : decode cX11_left 6 = .ok (.invokevirtual 147, 3) := by decide +kernel
theorem dX11_left_9 : decode cX11_left 9 = .ok (.ifCond .eq 19, 3) := by decide +kernel
theorem dX11_left_12 : decode cX11_left 12 = .ok (.aload_n 0, 1) := by decide +kernel
theorem dX11_left_13 : decode cX11_left 13 = .ok (.getfield 40, 3) := by decide +kernel
theorem dX11_left_16 : decode cX11_left 16 = .ok (.iload_n 1, 1) := by decide +kernel
theorem dX11_left_17 : decode cX11_left 17 = .ok (.iload_n 2, 1) := by decide +kernel
theorem dX11_left_18 : decode cX11_left 18 = .ok (.invokestatic 154, 3) := by decide +kernel
theorem dX11_left_21 : decode cX11_left 21 = .ok (.iload_n 3, 1) := by decide +kernel
theorem dX11_left_22 : decode cX11_left 22 = .ok (.invokevirtual 209, 3) := by decide +kernel
theorem dX11_left_25 : decode cX11_left 25 = .ok (.goto 4, 3) := by decide +kernel
theorem dX11_left_28 : decode cX11_left 28 = .ok (.iconst (-1), 1) := by decide +kernel
theorem dX11_left_29 : decode cX11_left 29 = .ok (.ireturn, 1) := by decide +kernel
set_option maxRecDepth 20000 in
theorem ggX11_left_X6_has : GoodIn wsX11_left wsX6_has := goodIn_r _ [6, 7, 8, 9, 10, 11, 12, 13, 14, 37, 38, 39, 40, 41, 42, 43, 44, 45] rfl (by decide +kernel)
set_option maxRecDepth 20000 in
theorem gX11_left_X6_has : GoodIn wsX11_left (wsV RX11 147 RX6 yX6_has wsX6_has) := goodIn_app (goodIn_of _ (by decide +kernel)) ggX11_left_X6_has
set_option maxRecDepth 20000 in
theorem ggX11_left_X6_leftBy : GoodIn wsX11_left wsX6_leftBy := goodIn_r _ [21, 22, 37, 38, 39, 40, 41] rfl (by decide +kernel)
set_option maxRecDepth 20000 in
theorem gX11_left_X6_leftBy : GoodIn wsX11_left (wsV RX11 209 RX6 yX6_leftBy wsX6_leftBy) := goodIn_app (goodIn_of _ (by decide +kernel)) ggX11_left_X6_leftBy
set_option maxRecDepth 20000 in
theorem ggX11_left_X6_placeOf : GoodIn wsX11_left wsX6_placeOf := goodIn_r _ [17] rfl (by decide +kernel)
set_option maxRecDepth 20000 in
theorem gX11_left_X6_placeOf : GoodIn wsX11_left (va_wsS RX11 154 yX6_placeOf wsX6_placeOf) := goodIn_app (goodIn_of _ (by decide +kernel)) ggX11_left_X6_placeOf
set_option maxHeartbeats 4000000 in
set_option maxRecDepth 100000 in
theorem S_X11_left (l : Launch) (D : va_G) (K : Nat → ClassId) (a : Nat → Nat) (G : gS) (p0 : Int32) (s0 : Int) (p1 : Int32) (s1 : Int) (p2 : Int32) (s2 : Int) (e0 : p0.toInt = s0) (e1 : p1.toInt = s1) (e2 : p2.toInt = s2) (hI : xI G) (sz : Nat) : Ki l yX11_left wsX11_left 3 83 0 0 D [.ref (a 0), .int p0, .int p1, .int p2] (xW K a G) (tK K) sz (fun (r : Int32) (_ : Unit) => (((((0 ≤ s0 ∧ s0 < (G 18 1).toInt ∧ 0 ≤ s1 ∧ s1 < (G 18 0).toInt) ∧ 0 ≤ s2 ∧ s2 < 4 ∧ ((G 40) (s0 * 16 + s1).toNat).toInt ≠ -1) ∧ r.toInt = (xPc G (s2.toNat + 1) (s0 * 16 + s1).toNat).toInt) ∨ (¬ ((0 ≤ s0 ∧ s0 < (G 18 1).toInt ∧ 0 ≤ s1 ∧ s1 < (G 18 0).toInt) ∧ 0 ≤ s2 ∧ s2 < 4 ∧ ((G 40) (s0 * 16 + s1).toNat).toInt ≠ -1) ∧ r.toInt = -1)))) (fun (_ : Unit) => (xW K a G)) (fun _ => (tK K)) := by
  unfold Ki
  refine g_ofW (cc := cX11_left) (lv := [(0, .ref (a 0)), (1, .int p0), (2, .int p1), (3, .int p2)]) (by decide) rfl (Nat.le_of_ble_eq_true rfl) rfl ?_
  intro p e s m args below meth c A Q hA hQ F hr hnm
  have hts := F.2.2.2.2.1
  have w_0 : (Cond.fieldLink RX11 40 "QuietCut" "piece" "LQuietCut$Piece;").before args s = true := hts _ (List.mem_of_getElem? (i := 1) rfl)
  have i_X11 : ∀ w ∈ u_ws RX11 TX11 14, w ∈ wsX11_left := fun _ h => List.mem_cons_of_mem _ (List.mem_append_left _ (List.mem_append_left _ (List.mem_append_right _ h)))
  have rg0 : -2147483648 ≤ s0 ∧ s0 ≤ 2147483647 := e0 ▸ ti_rng p0
  have rg1 : -2147483648 ≤ s1 ∧ s1 ≤ 2147483647 := e1 ▸ ti_rng p1
  have rg2 : -2147483648 ≤ s2 ∧ s2 ≤ 2147483647 := e2 ▸ ti_rng p2
  have b1 : (4 : Int) ≤ (G 18 0).toInt ∧ (G 18 0).toInt ≤ 16 := hI 18 0
  have b2 : (1 : Int) ≤ (G 18 1).toInt ∧ (G 18 1).toInt ≤ 6 := hI 18 1
  refine g_aload_n F 0 dX11_left_0 rfl rfl ?_
  refine xg_0_4 F i_X11 w_0 dX11_left_1 ?_
  refine g_iload_n F 1 dX11_left_4 rfl rfl ?_
  refine g_iload_n F 2 dX11_left_5 rfl rfl ?_
  refine u_callVi (k := 0) (n := 0) (b := a 5) (As := [.int p0, .int p1]) (st := []) F (fun sz => S_X6_has l D K a G p0 s0 p1 s1 e0 e1 hI sz) (cwV 2 hts gX11_left_X6_has rfl rfl rfl (by decide +kernel) ⟨Nat.le_of_ble_eq_true rfl, Nat.le_of_ble_eq_true rfl⟩) rfl 5 xc_5 rfl (Nat.le_of_ble_eq_true rfl) ⟨Nat.zero_le _, Nat.zero_le _⟩ dX11_left_6 (fun r3 _ hw4 => ?_)
  rcases hw4 with ⟨rfl, q6⟩ | ⟨rfl, q7⟩
  · have q6 : (0 ≤ s0 ∧ s0 < (G 18 1).toInt ∧ 0 ≤ s1 ∧ s1 < (G 18 0).toInt) := q6
    refine v_if_eq F 28 dX11_left_9 (by decide) 1 rfl (fun c8 => absurd c8 (by decide)) (fun c8 => ?_)
    refine g_aload_n F 0 dX11_left_12 rfl rfl ?_
    refine xg_0_4 F i_X11 w_0 dX11_left_13 ?_
    refine g_iload_n F 1 dX11_left_16 rfl rfl ?_
    refine g_iload_n F 2 dX11_left_17 rfl rfl ?_
    refine u_call0 (k := 0) (n := 0) (As := [.int p0, .int p1]) (st := [.ref (a 5)]) F (fun sz => S_X6_placeOf_b5_b15 l D p0 s0 p1 s1 e0 (by omega) e1 (by omega) sz) (va_cwS 2 hts gX11_left_X6_placeOf rfl rfl rfl (by decide +kernel) ⟨Nat.le_of_ble_eq_true rfl, Nat.le_of_ble_eq_true rfl⟩) rfl (Nat.le_of_ble_eq_true rfl) ⟨Nat.zero_le _, Nat.zero_le _⟩ dX11_left_18 (fun r9 _ hw10 => ?_)
    have rg12 := hw10.1
    have rg13 := hw10.2
    clear hw10
    refine g_iload_n F 3 dX11_left_21 rfl rfl ?_
    refine u_callVi (k := 0) (n := 0) (b := a 5) (As := [.int r9, .int p2]) (st := []) F (fun sz => S_X6_leftBy l D K a G r9 r9.toInt p2 s2 rfl (by omega) e2 hI sz) (cwV 2 hts gX11_left_X6_leftBy rfl rfl rfl (by decide +kernel) ⟨Nat.le_of_ble_eq_true rfl, Nat.le_of_ble_eq_true rfl⟩) rfl 5 xc_5 rfl (Nat.le_of_ble_eq_true rfl) ⟨Nat.zero_le _, Nat.zero_le _⟩ dX11_left_22 (fun r14 _ hw15 => ?_)
    have q17 : (((0 ≤ s2 ∧ s2 < 4 ∧ ((G 40) (r9.toInt).toNat).toInt ≠ -1) ∧ r14.toInt = (xPc G (s2.toNat + 1) (r9.toInt).toNat).toInt) ∨ (¬ (0 ≤ s2 ∧ s2 < 4 ∧ ((G 40) (r9.toInt).toNat).toInt ≠ -1) ∧ r14.toInt = -1)) := hw15
    clear hw15
    refine g_goto F 29 dX11_left_25 (by decide) ?_
    exact u_iret F hA hQ hr () ((by have h9 := q17; rw [show r9.toInt = s0 * 16 + s1 by omega] at h9; rcases h9 with ⟨h8, h7⟩ | ⟨h8, h7⟩ <;> first | exact Or.inl ⟨by omega, h7⟩ | exact Or.inr ⟨by omega, h7⟩)) rfl rfl dX11_left_29
  · have q7 : ¬ (0 ≤ s0 ∧ s0 < (G 18 1).toInt ∧ 0 ≤ s1 ∧ s1 < (G 18 0).toInt) := q7
    refine v_if_eq F 28 dX11_left_9 (by decide) 0 rfl (fun c18 => ?_) (fun c18 => absurd c18 (by decide))
    refine g_iconst F (-1) dX11_left_28 (by decide) ?_
    exact u_iret F hA hQ hr () ((Or.inr ⟨by omega, by decide⟩)) rfl rfl dX11_left_29

theorem dX11_passed_0 : decode cX11_passed 0 = .ok (.aload_n 0, 1) := by decide +kernel
theorem dX11_passed_1 : decode cX11_passed 1 = .ok (.getfield 204, 3) := by decide +kernel
theorem dX11_passed_4 : decode cX11_passed 4 = .ok (.ifCond .eq 25, 3) := by decide +kernel
theorem dX11_passed_7 : decode cX11_passed 7 = .ok (.iload_n 1, 1) := by decide +kernel
theorem dX11_passed_8 : decode cX11_passed 8 = .ok (.ifCond .lt 21, 3) := by decide +kernel
theorem dX11_passed_11 : decode cX11_passed 11 = .ok (.iload_n 1, 1) := by decide +kernel
theorem dX11_passed_12 : decode cX11_passed 12 = .ok (.aload_n 0, 1) := by decide +kernel
theorem dX11_passed_13 : decode cX11_passed 13 = .ok (.getfield 85, 3) := by decide +kernel
theorem dX11_passed_16 : decode cX11_passed 16 = .ok (.arraylength, 1) := by decide +kernel
theorem dX11_passed_17 : decode cX11_passed 17 = .ok (.if_icmp .ge 12, 3) := by decide +kernel
theorem dX11_passed_20 : decode cX11_passed 20 = .ok (.aload_n 0, 1) := by decide +kernel
theorem dX11_passed_21 : decode cX11_passed 21 = .ok (.getfield 85, 3) := by decide +kernel
theorem dX11_passed_24 : decode cX11_passed 24 = .ok (.iload_n 1, 1) := by decide +kernel
theorem dX11_passed_25 : decode cX11_passed 25 = .ok (.iaload, 1) := by decide +kernel
theorem dX11_passed_26 : decode cX11_passed 26 = .ok (.goto 5, 3) := by decide +kernel
theorem dX11_passed_29 : decode cX11_passed 29 = .ok (.ldc 208, 2) := by decide +kernel
theorem dX11_passed_31 : decode cX11_passed 31 = .ok (.ireturn, 1) := by decide +kernel
set_option maxHeartbeats 4000000 in
set_option maxRecDepth 100000 in
theorem S_X11_passed (l : Launch) (D : va_G) (K : Nat → ClassId) (a : Nat → Nat) (G : gS) (p0 : Int32) (s0 : Int) (e0 : p0.toInt = s0) (hI : xI G) (sz : Nat) : Ki l yX11_passed wsX11_passed 1 40 0 0 D [.ref (a 0), .int p0] (xW K a G) (tK K) sz (fun (r : Int32) (_ : Unit) => (((((G 0 11).toInt ≠ 0 ∧ 0 ≤ s0 ∧ s0 < 7) ∧ r.toInt = ((G 90) (s0).toNat).toInt) ∨ (¬ ((G 0 11).toInt ≠ 0 ∧ 0 ≤ s0 ∧ s0 < 7) ∧ r.toInt = -1000000)))) (fun (_ : Unit) => (xW K a G)) (fun _ => (tK K)) := by
  unfold Ki
  refine g_ofW (cc := cX11_passed) (lv := [(0, .ref (a 0)), (1, .int p0)]) (by decide) rfl (Nat.le_of_ble_eq_true rfl) rfl ?_
  intro p e s m args below meth c A Q hA hQ F hr hnm
  have hts := F.2.2.2.2.1
  have w_0 : (Cond.fieldLink RX11 204 "QuietCut" "anyPassed" "Z").before args s = true := hts _ (List.mem_of_getElem? (i := 1) rfl)
  have i_X11 : ∀ w ∈ u_ws RX11 TX11 14, w ∈ wsX11_passed := fun _ h => List.mem_cons_of_mem _ (List.mem_append_right _ h)
  have w_1 : (Cond.constant RX11 208 (-1000000)).before args s = true := hts _ (List.mem_of_getElem? (i := 3) rfl)
  have w_2 : (Cond.fieldLink RX11 85 "QuietCut" "passed" "[I").before args s = true := hts _ (List.mem_of_getElem? (i := 2) rfl)
  have rg0 : -2147483648 ≤ s0 ∧ s0 ≤ 2147483647 := e0 ▸ ti_rng p0
  have b1 : (0 : Int) ≤ (G 0 11).toInt ∧ (G 0 11).toInt ≤ 1 := hI 0 11
  refine g_aload_n F 0 dX11_passed_0 rfl rfl ?_
  refine xg_0_11 F i_X11 w_0 dX11_passed_1 (G 0 11) (rfl) ?_
  refine v_if_eq F 29 dX11_passed_4 (by decide) (G 0 11).toInt rfl (fun c2 => ?_) (fun c2 => ?_)
  · refine g_ldc F w_1 dX11_passed_29 ?_
    exact u_iret F hA hQ hr () ((by show ((((G 0 11).toInt ≠ 0 ∧ 0 ≤ s0 ∧ s0 < 7) ∧ (-1000000) = ((G 90) (s0).toNat).toInt) ∨ (¬ ((G 0 11).toInt ≠ 0 ∧ 0 ≤ s0 ∧ s0 < 7) ∧ (-1000000) = -1000000)); (first | omega | (simp only [Int32.reduceToInt, true_and, and_true, ne_eq, not_true_eq_false, false_and, or_false, false_or, true_or, or_true, false_implies] <;> omega)))) rfl rfl dX11_passed_31
  · refine g_iload_n F 1 dX11_passed_7 rfl rfl ?_
    refine v_if_lt F 29 dX11_passed_8 (by decide) s0 e0 (fun c3 => ?_) (fun c3 => ?_)
    · refine g_ldc F w_1 dX11_passed_29 ?_
      exact u_iret F hA hQ hr () ((by show ((((G 0 11).toInt ≠ 0 ∧ 0 ≤ s0 ∧ s0 < 7) ∧ (-1000000) = ((G 90) (s0).toNat).toInt) ∨ (¬ ((G 0 11).toInt ≠ 0 ∧ 0 ≤ s0 ∧ s0 < 7) ∧ (-1000000) = -1000000)); (first | omega | (simp only [Int32.reduceToInt, true_and, and_true, ne_eq, not_true_eq_false, false_and, or_false, false_or, true_or, or_true, false_implies] <;> omega)))) rfl rfl dX11_passed_31
    · refine g_iload_n F 1 dX11_passed_11 rfl rfl ?_
      refine g_aload_n F 0 dX11_passed_12 rfl rfl ?_
      refine xg_0_10 F i_X11 w_2 dX11_passed_13 ?_
      refine g_alen F 90 0 xc_90 rfl 7 rfl dX11_passed_16 ?_
      refine v_icmp_ge F 29 dX11_passed_17 (by decide) s0 7 e0 rfl (fun c4 => ?_) (fun c4 => ?_)
      · refine g_ldc F w_1 dX11_passed_29 ?_
        exact u_iret F hA hQ hr () ((by show ((((G 0 11).toInt ≠ 0 ∧ 0 ≤ s0 ∧ s0 < 7) ∧ (-1000000) = ((G 90) (s0).toNat).toInt) ∨ (¬ ((G 0 11).toInt ≠ 0 ∧ 0 ≤ s0 ∧ s0 < 7) ∧ (-1000000) = -1000000)); (first | omega | (simp only [Int32.reduceToInt, true_and, and_true, ne_eq, not_true_eq_false, false_and, or_false, false_or, true_or, or_true, false_implies] <;> omega)))) rfl rfl dX11_passed_31
      · refine g_aload_n F 0 dX11_passed_20 rfl rfl ?_
        refine xg_0_10 F i_X11 w_2 dX11_passed_21 ?_
        refine g_iload_n F 1 dX11_passed_24 rfl rfl ?_
        refine u1_iald F 90 0 xc_90 rfl s0 e0 (by omega) (by omega) dX11_passed_25 ((G 90) (s0).toNat) (rfl) ?_
        refine g_goto F 31 dX11_passed_26 (by decide) ?_
        exact u_iret F hA hQ hr () ((by show ((((G 0 11).toInt ≠ 0 ∧ 0 ≤ s0 ∧ s0 < 7) ∧ ((G 90) (s0).toNat).toInt = ((G 90) (s0).toNat).toInt) ∨ (¬ ((G 0 11).toInt ≠ 0 ∧ 0 ≤ s0 ∧ s0 < 7) ∧ ((G 90) (s0).toNat).toInt = -1000000)); (first | omega | (simp only [Int32.reduceToInt, true_and, and_true, ne_eq, not_true_eq_false, false_and, or_false, false_or, true_or, or_true, false_implies] <;> omega)))) rfl rfl dX11_passed_31

theorem dX11_notePassed_0 : decode cX11_notePassed 0 = .ok (.aload_n 0, 1) := by decide +kernel
theorem dX11_notePassed_1 : decode cX11_notePassed 1 = .ok (.getfield 85, 3) := by decide +kernel
theorem dX11_notePassed_4 : decode cX11_notePassed 4 = .ok (.iconst 0, 1) := by decide +kernel
theorem dX11_notePassed_5 : decode cX11_notePassed 5 = .ok (.aload_n 0, 1) := by decide +kernel
theorem dX11_notePassed_6 : decode cX11_notePassed 6 = .ok (.getfield 47, 3) := by decide +kernel
theorem dX11_notePassed_9 : decode cX11_notePassed 9 = .ok (.getfield 185, 3) := by decide +kernel
theorem dX11_notePassed_12 : decode cX11_notePassed 12 = .ok (.iastore, 1) := by decide +kernel
theorem dX11_notePassed_13 : decode cX11_notePassed 13 = .ok (.aload_n 0, 1) := by decide +kernel
theorem dX11_notePassed_14 : decode cX11_notePassed 14 = .ok (.getfield 85, 3) := by decide +kernel
theorem dX11_notePassed_17 : decode cX11_notePassed 17 = .ok (.iconst 1, 1) := by decide +kernel
theorem dX11_notePassed_18 : decode cX11_notePassed 18 = .ok (.aload_n 0, 1) := by decide +kernel
theorem dX11_notePassed_19 : decode cX11_notePassed 19 = .ok (.getfield 47, 3) := by decide +kernel
theorem dX11_notePassed_22 : decode cX11_notePassed 22 = .ok (.getfield 188, 3) := by decide +kernel
theorem dX11_notePassed_25 : decode cX11_notePassed 25 = .ok (.iastore, 1) := by decide +kernel
theorem dX11_notePassed_26 : decode cX11_notePassed 26 = .ok (.aload_n 0, 1) := by decide +kernel
theorem dX11_notePassed_27 : decode cX11_notePassed 27 = .ok (.getfield 85, 3) := by decide +kernel
theorem dX11_notePassed_30 : decode cX11_notePassed 30 = .ok (.iconst 2, 1) := by decide +kernel
theorem dX11_notePassed_31 : decode cX11_notePassed 31 = .ok (.aload_n 0, 1) := by decide +kernel
theorem dX11_notePassed_32 : decode cX11_notePassed 32 = .ok (.getfield 47, 3) := by decide +kernel
theorem dX11_notePassed_35 : decode cX11_notePassed 35 = .ok (.getfield 191, 3) := by decide +kernel
theorem dX11_notePassed_38 : decode cX11_notePassed 38 = .ok (.iastore, 1) := by decide +kernel
theorem dX11_notePassed_39 : decode cX11_notePassed 39 = .ok (.aload_n 0, 1) := by decide +kernel
theorem dX11_notePassed_40 : decode cX11_notePassed 40 = .ok (.getfield 85, 3) := by decide +kernel
theorem dX11_notePassed_43 : decode cX11_notePassed 43 = .ok (.iconst 3, 1) := by decide +kernel
theorem dX11_notePassed_44 : decode cX11_notePassed 44 = .ok (.aload_n 0, 1) := by decide +kernel
theorem dX11_notePassed_45 : decode cX11_notePassed 45 = .ok (.getfield 47, 3) := by decide +kernel
theorem dX11_notePassed_48 : decode cX11_notePassed 48 = .ok (.getfield 194, 3) := by decide +kernel
theorem dX11_notePassed_51 : decode cX11_notePassed 51 = .ok (.iastore, 1) := by decide +kernel
theorem dX11_notePassed_52 : decode cX11_notePassed 52 = .ok (.aload_n 0, 1) := by decide +kernel
theorem dX11_notePassed_53 : decode cX11_notePassed 53 = .ok (.getfield 85, 3) := by decide +kernel
theorem dX11_notePassed_56 : decode cX11_notePassed 56 = .ok (.iconst 4, 1) := by decide +kernel
theorem dX11_notePassed_57 : decode cX11_notePassed 57 = .ok (.aload_n 0, 1) := by decide +kernel
theorem dX11_notePassed_58 : decode cX11_notePassed 58 = .ok (.getfield 47, 3) := by decide +kernel
theorem dX11_notePassed_61 : decode cX11_notePassed 61 = .ok (.getfield 197, 3) := by decide +kernel
theorem dX11_notePassed_64 : decode cX11_notePassed 64 = .ok (.iastore, 1) := by decide +kernel
theorem dX11_notePassed_65 : decode cX11_notePassed 65 = .ok (.aload_n 0, 1) := by decide +kernel
theorem dX11_notePassed_66 : decode cX11_notePassed 66 = .ok (.getfield 85, 3) := by decide +kernel
theorem dX11_notePassed_69 : decode cX11_notePassed 69 = .ok (.iconst 5, 1) := by decide +kernel
theorem dX11_notePassed_70 : decode cX11_notePassed 70 = .ok (.aload_n 0, 1) := by decide +kernel
theorem dX11_notePassed_71 : decode cX11_notePassed 71 = .ok (.getfield 47, 3) := by decide +kernel
theorem dX11_notePassed_74 : decode cX11_notePassed 74 = .ok (.getfield 200, 3) := by decide +kernel
theorem dX11_notePassed_77 : decode cX11_notePassed 77 = .ok (.iastore, 1) := by decide +kernel
theorem dX11_notePassed_78 : decode cX11_notePassed 78 = .ok (.aload_n 0, 1) := by decide +kernel
theorem dX11_notePassed_79 : decode cX11_notePassed 79 = .ok (.getfield 85, 3) := by decide +kernel
theorem dX11_notePassed_82 : decode cX11_notePassed 82 = .ok (.bipush 6, 2) := by decide +kernel
theorem dX11_notePassed_84 : decode cX11_notePassed 84 = .ok (.aload_n 0, 1) := by decide +kernel
theorem dX11_notePassed_85 : decode cX11_notePassed 85 = .ok (.getfield 47, 3) := by decide +kernel
theorem dX11_notePassed_88 : decode cX11_notePassed 88 = .ok (.getfield 201, 3) := by decide +kernel
theorem dX11_notePassed_91 : decode cX11_notePassed 91 = .ok (.iastore, 1) := by decide +kernel
theorem dX11_notePassed_92 : decode cX11_notePassed 92 = .ok (.aload_n 0, 1) := by decide +kernel
theorem dX11_notePassed_93 : decode cX11_notePassed 93 = .ok (.iconst 1, 1) := by decide +kernel
theorem dX11_notePassed_94 : decode cX11_notePassed 94 = .ok (.putfield 204, 3) := by decide +kernel
theorem dX11_notePassed_97 : decode cX11_notePassed 97 = .ok (.return_, 1) := by decide +kernel
set_option maxHeartbeats 4000000 in
set_option maxRecDepth 100000 in
theorem S_X11_notePassed (l : Launch) (D : va_G) (K : Nat → ClassId) (a : Nat → Nat) (G : gS) (hI : xI G) (sz : Nat) : Kv l yX11_notePassed wsX11_notePassed 1 40 0 0 D [.ref (a 0)] (xW K a G) (tK K) sz (fun (G' : gS) => (xI G') ∧ (gu_un xcd [12, 9000] G G') ∧ ((G' 0 11 = 1 ∧ G' 90 0 = G 6 15 ∧ G' 90 1 = G 6 16 ∧ G' 90 2 = G 6 17 ∧ G' 90 3 = G 6 18 ∧ G' 90 4 = G 6 13 ∧ G' 90 5 = G 6 12 ∧ G' 90 6 = G 6 19))) (fun (G' : gS) => (xW K a G')) (fun _ => (tK K)) := by
  unfold Kv
  refine g_ofW (cc := cX11_notePassed) (lv := [(0, .ref (a 0))]) (by decide) rfl (Nat.le_of_ble_eq_true rfl) rfl ?_
  intro p e s m args below meth c A Q hA hQ F hr hnm
  have hts := F.2.2.2.2.1
  have w_0 : (Cond.fieldLink RX11 85 "QuietCut" "passed" "[I").before args s = true := hts _ (List.mem_of_getElem? (i := 1) rfl)
  have i_X11 : ∀ w ∈ u_ws RX11 TX11 14, w ∈ wsX11_notePassed := fun _ h => List.mem_cons_of_mem _ (List.mem_append_left _ (List.mem_append_right _ h))
  have w_1 : (Cond.fieldLink RX11 47 "QuietCut" "lathe" "LQuietCut$Lathe;").before args s = true := hts _ (List.mem_of_getElem? (i := 2) rfl)
  have w_2 : (Cond.fieldLink RX11 185 "QuietCut$Lathe" "wave" "I").before args s = true := hts _ (List.mem_of_getElem? (i := 3) rfl)
  have i_X5 : ∀ w ∈ u_ws RX5 TX5 20, w ∈ wsX11_notePassed := fun _ h => List.mem_cons_of_mem _ (List.mem_append_right _ h)
  have w_3 : (Cond.fieldLink RX11 188 "QuietCut$Lathe" "time" "I").before args s = true := hts _ (List.mem_of_getElem? (i := 4) rfl)
  have w_4 : (Cond.fieldLink RX11 191 "QuietCut$Lathe" "out" "I").before args s = true := hts _ (List.mem_of_getElem? (i := 5) rfl)
  have w_5 : (Cond.fieldLink RX11 194 "QuietCut$Lathe" "farthest" "I").before args s = true := hts _ (List.mem_of_getElem? (i := 6) rfl)
  have w_6 : (Cond.fieldLink RX11 197 "QuietCut$Lathe" "x" "I").before args s = true := hts _ (List.mem_of_getElem? (i := 7) rfl)
  have w_7 : (Cond.fieldLink RX11 200 "QuietCut$Lathe" "wear" "I").before args s = true := hts _ (List.mem_of_getElem? (i := 8) rfl)
  have w_8 : (Cond.fieldLink RX11 201 "QuietCut$Lathe" "begun" "I").before args s = true := hts _ (List.mem_of_getElem? (i := 9) rfl)
  have w_9 : (Cond.fieldLink RX11 204 "QuietCut" "anyPassed" "Z").before args s = true := hts _ (List.mem_of_getElem? (i := 10) rfl)
  refine g_aload_n F 0 dX11_notePassed_0 rfl rfl ?_
  refine xg_0_10 F i_X11 w_0 dX11_notePassed_1 ?_
  refine g_iconst F 0 dX11_notePassed_4 (by decide) ?_
  refine g_aload_n F 0 dX11_notePassed_5 rfl rfl ?_
  refine xg_0_5 F i_X11 w_1 dX11_notePassed_6 ?_
  refine xg_6_15 F i_X5 w_2 dX11_notePassed_9 (G 6 15) (rfl) ?_
  refine u_iast F 90 0 xc_90 rfl 0 rfl (by decide) (by decide) (xW K a (gu_up G 90 0 (G 6 15))) (xs_90 _) dX11_notePassed_12 ?_
  refine g_aload_n F 0 dX11_notePassed_13 rfl rfl ?_
  refine xg_0_10 F i_X11 w_0 dX11_notePassed_14 ?_
  refine g_iconst F 1 dX11_notePassed_17 (by decide) ?_
  refine g_aload_n F 0 dX11_notePassed_18 rfl rfl ?_
  refine xg_0_5 F i_X11 w_1 dX11_notePassed_19 ?_
  refine xg_6_16 F i_X5 w_3 dX11_notePassed_22 (G 6 16) (rfl) ?_
  refine u_iast F 90 0 xc_90 rfl 1 rfl (by decide) (by decide) (xW K a (gu_up (gu_up G 90 0 (G 6 15)) 90 1 (G 6 16))) (xs_90 _) dX11_notePassed_25 ?_
  refine g_aload_n F 0 dX11_notePassed_26 rfl rfl ?_
  refine xg_0_10 F i_X11 w_0 dX11_notePassed_27 ?_
  refine g_iconst F 2 dX11_notePassed_30 (by decide) ?_
  refine g_aload_n F 0 dX11_notePassed_31 rfl rfl ?_
  refine xg_0_5 F i_X11 w_1 dX11_notePassed_32 ?_
  refine xg_6_17 F i_X5 w_4 dX11_notePassed_35 (G 6 17) (rfl) ?_
  refine u_iast F 90 0 xc_90 rfl 2 rfl (by decide) (by decide) (xW K a (gu_up (gu_up (gu_up G 90 0 (G 6 15)) 90 1 (G 6 16)) 90 2 (G 6 17))) (xs_90 _) dX11_notePassed_38 ?_
  refine g_aload_n F 0 dX11_notePassed_39 rfl rfl ?_
  refine xg_0_10 F i_X11 w_0 dX11_notePassed_40 ?_
  refine g_iconst F 3 dX11_notePassed_43 (by decide) ?_
  refine g_aload_n F 0 dX11_notePassed_44 rfl rfl ?_
  refine xg_0_5 F i_X11 w_1 dX11_notePassed_45 ?_
  refine xg_6_18 F i_X5 w_5 dX11_notePassed_48 (G 6 18) (rfl) ?_
  refine u_iast F 90 0 xc_90 rfl 3 rfl (by decide) (by decide) (xW K a (gu_up (gu_up (gu_up (gu_up G 90 0 (G 6 15)) 90 1 (G 6 16)) 90 2 (G 6 17)) 90 3 (G 6 18))) (xs_90 _) dX11_notePassed_51 ?_
  refine g_aload_n F 0 dX11_notePassed_52 rfl rfl ?_
  refine xg_0_10 F i_X11 w_0 dX11_notePassed_53 ?_
  refine g_iconst F 4 dX11_notePassed_56 (by decide) ?_
  refine g_aload_n F 0 dX11_notePassed_57 rfl rfl ?_
  refine xg_0_5 F i_X11 w_1 dX11_notePassed_58 ?_
  refine xg_6_13 F i_X5 w_6 dX11_notePassed_61 (G 6 13) (rfl) ?_
  refine u_iast F 90 0 xc_90 rfl 4 rfl (by decide) (by decide) (xW K a (gu_up (gu_up (gu_up (gu_up (gu_up G 90 0 (G 6 15)) 90 1 (G 6 16)) 90 2 (G 6 17)) 90 3 (G 6 18)) 90 4 (G 6 13))) (xs_90 _) dX11_notePassed_64 ?_
  refine g_aload_n F 0 dX11_notePassed_65 rfl rfl ?_
  refine xg_0_10 F i_X11 w_0 dX11_notePassed_66 ?_
  refine g_iconst F 5 dX11_notePassed_69 (by decide) ?_
  refine g_aload_n F 0 dX11_notePassed_70 rfl rfl ?_
  refine xg_0_5 F i_X11 w_1 dX11_notePassed_71 ?_
  refine xg_6_12 F i_X5 w_7 dX11_notePassed_74 (G 6 12) (rfl) ?_
  have b1 : (0 : Int) ≤ (G 6 12).toInt ∧ (G 6 12).toInt ≤ 30000 := hI 6 12
  refine u_iast F 90 0 xc_90 rfl 5 rfl (by decide) (by decide) (xW K a (gu_up (gu_up (gu_up (gu_up (gu_up (gu_up G 90 0 (G 6 15)) 90 1 (G 6 16)) 90 2 (G 6 17)) 90 3 (G 6 18)) 90 4 (G 6 13)) 90 5 (G 6 12))) (xs_90 _) dX11_notePassed_77 ?_
  refine g_aload_n F 0 dX11_notePassed_78 rfl rfl ?_
  refine xg_0_10 F i_X11 w_0 dX11_notePassed_79 ?_
  refine g_bipush F 6 dX11_notePassed_82 (by decide) ?_
  refine g_aload_n F 0 dX11_notePassed_84 rfl rfl ?_
  refine xg_0_5 F i_X11 w_1 dX11_notePassed_85 ?_
  refine xg_6_19 F i_X5 w_8 dX11_notePassed_88 (G 6 19) (rfl) ?_
  refine u_iast F 90 0 xc_90 rfl 6 rfl (by decide) (by decide) (xW K a (gu_up (gu_up (gu_up (gu_up (gu_up (gu_up (gu_up G 90 0 (G 6 15)) 90 1 (G 6 16)) 90 2 (G 6 17)) 90 3 (G 6 18)) 90 4 (G 6 13)) 90 5 (G 6 12)) 90 6 (G 6 19))) (xs_90 _) dX11_notePassed_91 ?_
  refine g_aload_n F 0 dX11_notePassed_92 rfl rfl ?_
  refine g_iconst F 1 dX11_notePassed_93 (by decide) ?_
  refine xp_0_11 F i_X11 w_9 dX11_notePassed_94 (by decide) ?_
  exact u_vret F hA hQ hr (gu_up (gu_up (gu_up (gu_up (gu_up (gu_up (gu_up (gu_up G 90 0 (G 6 15)) 90 1 (G 6 16)) 90 2 (G 6 17)) 90 3 (G 6 18)) 90 4 (G 6 13)) 90 5 (G 6 12)) 90 6 (G 6 19)) 0 11 1) (⟨(gu_I.up (j := 0) (k := 11) (v := 1) (gu_I.up (j := 90) (k := 6) (v := (G 6 19)) (gu_I.up (j := 90) (k := 5) (v := (G 6 12)) (gu_I.up (j := 90) (k := 4) (v := (G 6 13)) (gu_I.up (j := 90) (k := 3) (v := (G 6 18)) (gu_I.up (j := 90) (k := 2) (v := (G 6 17)) (gu_I.up (j := 90) (k := 1) (v := (G 6 16)) (gu_I.up (j := 90) (k := 0) (v := (G 6 15)) hI (ti_rng _).1 (ti_rng _).2) (ti_rng _).1 (ti_rng _).2) (ti_rng _).1 (ti_rng _).2) (ti_rng _).1 (ti_rng _).2) (ti_rng _).1 (ti_rng _).2) (ti_rng _).1 (ti_rng _).2) (ti_rng _).1 (ti_rng _).2) (show (0 : Int) ≤ (1 : Int32).toInt by decide) (show (1 : Int32).toInt ≤ 1 by decide)), (gu_un.up (j := 0) (k := 11) (v := 1) (gu_un.up (j := 90) (k := 6) (v := (G 6 19)) (gu_un.up (j := 90) (k := 5) (v := (G 6 12)) (gu_un.up (j := 90) (k := 4) (v := (G 6 13)) (gu_un.up (j := 90) (k := 3) (v := (G 6 18)) (gu_un.up (j := 90) (k := 2) (v := (G 6 17)) (gu_un.up (j := 90) (k := 1) (v := (G 6 16)) (gu_un.up (j := 90) (k := 0) (v := (G 6 15)) gu_un.rf (show (9000 : Nat) ∈ ([12, 9000] : List Nat) by decide)) (show (9000 : Nat) ∈ ([12, 9000] : List Nat) by decide)) (show (9000 : Nat) ∈ ([12, 9000] : List Nat) by decide)) (show (9000 : Nat) ∈ ([12, 9000] : List Nat) by decide)) (show (9000 : Nat) ∈ ([12, 9000] : List Nat) by decide)) (show (9000 : Nat) ∈ ([12, 9000] : List Nat) by decide)) (show (9000 : Nat) ∈ ([12, 9000] : List Nat) by decide)) (show (12 : Nat) ∈ ([12, 9000] : List Nat) by decide)), (⟨rfl, rfl, rfl, rfl, rfl, rfl, rfl, rfl⟩)⟩) rfl rfl dX11_notePassed_97
