
set_option maxHeartbeats 4000000 in
set_option maxRecDepth 100000 in
theorem S_X13_timeOf_b9 (l : Launch) (D : va_G) (K : Nat → ClassId) (a : Nat → Nat) (G : gS) (p0 : Int32) (s0 : Int) (e0 : p0.toInt = s0) (h0 : 0 ≤ s0 ∧ s0 ≤ 9) (hI : yI G) (sz : Nat) : Ki l yX13_timeOf wsX13_timeOf 1 40 0 0 D [.ref (a 0), .int p0] (yW K a G) (tK K) sz (fun (r : Int32) (_ : Unit) => ((r.toInt = (yT (G 3) (G 7) s0).toInt))) (fun (_ : Unit) => (yW K a G)) (fun _ => (tK K)) := by
  unfold Ki
  refine g_ofW (cc := cX13_timeOf) (lv := [(0, .ref (a 0)), (1, .int p0)]) (by decide) rfl (Nat.le_of_ble_eq_true rfl) rfl ?_
  intro p e s m args below meth c A Q hA hQ F hr hnm
  have hts := F.2.2.2.2.1
  have w_0 : (Cond.fieldLink RX13 199 "QuietCutModel" "rule" "[I").before args s = true := hts _ (List.mem_of_getElem? (i := 1) rfl)
  have i_X13 : ∀ w ∈ u_ws RX13 TX13 73, w ∈ wsX13_timeOf := fun _ h => List.mem_cons_of_mem _ (List.mem_append_right _ h)
  have w_1 : (Cond.fieldLink RX13 204 "QuietCutModel" "sway" "[I").before args s = true := hts _ (List.mem_of_getElem? (i := 2) rfl)
  have b1 : (4 : Int) ≤ (G 3 0).toInt ∧ (G 3 0).toInt ≤ 16 := hI 3 0
  have b2 : (1 : Int) ≤ (G 3 9).toInt ∧ (G 3 9).toInt ≤ 12 := hI 3 9
  have pb := ti_mulb (x := G 3 0) (y := G 3 9) (A := 16) (B := 12) rfl rfl (by omega) (by omega) (by omega) (by omega) (by decide)
  have J_4 : ∀ (fuel : Nat) (x4_2 : Int32) (x4_3 : Int32), (2147483647 - x4_3.toInt).toNat < fuel → (0 ≤ x4_3.toInt ∧ x4_3.toInt ≤ 192) → (x4_2 = yTa (G 3) (G 7) p0 (x4_3.toInt).toNat) → ((x4_3.toInt ≤ ((G 3 0) * (G 3 9) : Int32).toInt)) → gG p l e (gR 1 0 0 40) s m args below meth c D A 4 Q 0 0 (yW K a G) (tK K) [(0, .ref (a 0)), (1, .int p0), (2, .int x4_2), (3, .int x4_3)] 4 [] := by
    intro fuel
    induction fuel with
    | zero => intro x4_2 x4_3 hm; exact absurd hm (Nat.not_lt_zero _)
    | succ fuel_4 ih_4 =>
      intro x4_2 x4_3 hm_4 h4_3 tt np
      refine g_iload_n F 3 dX13_timeOf_4 rfl rfl ?_
      refine g_aload_n F 0 dX13_timeOf_5 rfl rfl ?_
      refine yg_0_10 F i_X13 w_0 dX13_timeOf_6 ?_
      refine g_iconst F 0 dX13_timeOf_9 (by decide) ?_
      refine u1_iald F 3 0 yc_3 rfl 0 rfl (by decide) (by decide) dX13_timeOf_10 (G 3 0) (rfl) ?_
      refine g_aload_n F 0 dX13_timeOf_11 rfl rfl ?_
      refine yg_0_10 F i_X13 w_0 dX13_timeOf_12 ?_
      refine g_bipush F 9 dX13_timeOf_15 (by decide) ?_
      refine u1_iald F 3 0 yc_3 rfl 9 rfl (by decide) (by decide) dX13_timeOf_17 (G 3 9) (rfl) ?_
      refine g_imul F dX13_timeOf_18 ?_
      have b3 := ti_rng ((G 3 0) * (G 3 9))
      refine v_icmp_ge F 47 dX13_timeOf_19 (by decide) x4_3.toInt (((G 3 0) * (G 3 9)) : Int32).toInt rfl rfl (fun c4 => ?_) (fun c4 => ?_)
      · refine g_iload_n F 2 dX13_timeOf_47 rfl rfl ?_
        exact u_iret F hA hQ hr () ((by rw [tt, show x4_3.toInt.toNat = ((G 3 0) * (G 3 9) : Int32).toInt.toNat by omega, ti_of e0]; rfl)) rfl rfl dX13_timeOf_48
      · refine g_iload_n F 2 dX13_timeOf_22 rfl rfl ?_
        refine g_iload_n F 1 dX13_timeOf_23 rfl rfl ?_
        refine g_aload_n F 0 dX13_timeOf_24 rfl rfl ?_
        refine yg_0_14 F i_X13 w_1 dX13_timeOf_25 ?_
        refine g_iload_n F 3 dX13_timeOf_28 rfl rfl ?_
        refine g_aload_n F 0 dX13_timeOf_29 rfl rfl ?_
        refine yg_0_10 F i_X13 w_0 dX13_timeOf_30 ?_
        refine g_bipush F 11 dX13_timeOf_33 (by decide) ?_
        refine u1_iald F 3 0 yc_3 rfl 11 rfl (by decide) (by decide) dX13_timeOf_35 (G 3 11) (rfl) ?_
        have b6 : (1 : Int) ≤ (G 3 11).toInt ∧ (G 3 11).toInt ≤ 6 := hI 3 11
        refine u_irem F dX13_timeOf_36 (ti_ne0 rfl (by omega)) x4_3.toInt (G 3 11).toInt rfl rfl (by omega) (by omega) (fun y5 ey5 => ?_)
        refine u1_iald F 7 0 yc_7 rfl y5.toInt rfl (by omega) (by omega) dX13_timeOf_37 ((G 7) (y5.toInt).toNat) (rfl) ?_
        have b7 : (0 : Int) ≤ ((G 7) (y5.toInt).toNat).toInt ∧ ((G 7) (y5.toInt).toNat).toInt ≤ 9 := hI 7 _
        refine g_iadd F dX13_timeOf_38 ?_
        refine g_iadd F dX13_timeOf_39 ?_
        refine g_istore_n F [(2, .int (x4_2 + (p0 + ((G 7) (y5.toInt).toNat)))), (0, .ref (a 0)), (1, .int p0), (3, .int x4_3)] dX13_timeOf_40 rfl (by decide) rfl ?_
        refine u_iinc F (fun v_ => [(3, .int v_), (2, .int (x4_2 + (p0 + ((G 7) (y5.toInt).toNat)))), (0, .ref (a 0)), (1, .int p0)]) dX13_timeOf_41 (j := 3) rfl x4_3.toInt 1 rfl rfl (by omega) (by omega) (by decide) (fun _ => rfl) (fun y8 ey8 => ?_)
        refine g_goto F 4 dX13_timeOf_44 (by decide) ?_
        refine g_locals [(0, .ref (a 0)), (1, .int p0), (2, .int (x4_2 + (p0 + ((G 7) (y5.toInt).toNat)))), (3, .int y8)] [2, 3, 1, 0] rfl ?_
        exact ih_4 (x4_2 + (p0 + ((G 7) (y5.toInt).toNat))) y8 (by omega) (by have h9 := ti_rng y8; omega) (by rw [show (y8.toInt).toNat = x4_3.toInt.toNat + 1 by omega]; exact yTa_1 (by omega) ey5.2.2.2 tt) (by (first | omega | (simp only [Int32.reduceToInt, true_and, and_true, ne_eq, not_true_eq_false, false_and, or_false, false_or, true_or, or_true, false_implies] <;> omega)))
  refine g_iconst F 0 dX13_timeOf_0 (by decide) ?_
  refine g_istore_n F [(2, .int 0), (0, .ref (a 0)), (1, .int p0)] dX13_timeOf_1 rfl (by decide) rfl ?_
  refine g_iconst F 0 dX13_timeOf_2 (by decide) ?_
  refine g_istore_n F [(3, .int 0), (2, .int 0), (0, .ref (a 0)), (1, .int p0)] dX13_timeOf_3 rfl (by decide) rfl ?_
  refine g_locals [(0, .ref (a 0)), (1, .int p0), (2, .int 0), (3, .int 0)] [2, 3, 1, 0] rfl ?_
  exact J_4 _ 0 0 (Nat.lt_succ_self _) (by decide) (rfl) (by (first | omega | (simp only [Int32.reduceToInt, true_and, and_true, ne_eq, not_true_eq_false, false_and, or_false, false_or, true_or, or_true, false_implies] <;> omega)))
