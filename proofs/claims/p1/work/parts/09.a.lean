theorem sp_most_next (F : Nat → Int32) (k : Nat) (w : Int32) (hb : -1000000 < F 0) (hw0 : k = 0 → w = -1000000) (hw : ∀ j, k = j + 1 → w = sp_most F j) : ∀ j, k + 1 = j + 1 → (if w < F k then F k else w) = sp_most F j := by
  intro j hj
  have hj2 : k = j := by omega
  subst hj2
  rcases Nat.eq_zero_or_pos k with h0 | hp
  · rw [hw0 h0]
    subst h0
    exact if_pos hb
  · obtain ⟨j2, rfl⟩ : ∃ j2, k = j2 + 1 := ⟨k - 1, by omega⟩
    rw [hw j2 rfl]
    rfl
theorem sp_least_next (F : Nat → Int32) (k : Nat) (w : Int32) (hb : F 0 < 1000000) (hw0 : k = 0 → w = 1000000) (hw : ∀ j, k = j + 1 → w = sp_least F j) : ∀ j, k + 1 = j + 1 → (if F k < w then F k else w) = sp_least F j := by
  intro j hj
  have hj2 : k = j := by omega
  subst hj2
  rcases Nat.eq_zero_or_pos k with h0 | hp
  · rw [hw0 h0]
    subst h0
    exact if_pos hb
  · obtain ⟨j2, rfl⟩ : ∃ j2, k = j2 + 1 := ⟨k - 1, by omega⟩
    rw [hw j2 rfl]
    rfl

theorem dX5_greatest_0 : decode cX5_greatest 0 = .ok (.ldc 162, 2) := by decide +kernel
theorem dX5_greatest_2 : decode cX5_greatest 2 = .ok (.istore_n 3, 1) := by decide +kernel
theorem dX5_greatest_3 : decode cX5_greatest 3 = .ok (.iload_n 1, 1) := by decide +kernel
theorem dX5_greatest_4 : decode cX5_greatest 4 = .ok (.istore 4, 2) := by decide +kernel
theorem dX5_greatest_6 : decode cX5_greatest 6 = .ok (.iload 4, 2) := by decide +kernel
theorem dX5_greatest_8 : decode cX5_greatest 8 = .ok (.iload_n 1, 1) := by decide +kernel
theorem dX5_greatest_9 : decode cX5_greatest 9 = .ok (.iload_n 2, 1) := by decide +kernel
theorem dX5_greatest_10 : decode cX5_greatest 10 = .ok (.iadd, 1) := by decide +kernel
theorem dX5_greatest_11 : decode cX5_greatest 11 = .ok (.if_icmp .ge 30, 3) := by decide +kernel
theorem dX5_greatest_14 : decode cX5_greatest 14 = .ok (.iload 4, 2) := by decide +kernel
theorem dX5_greatest_16 : decode cX5_greatest 16 = .ok (.ifCond .lt 25, 3) := by decide +kernel
theorem dX5_greatest_19 : decode cX5_greatest 19 = .ok (.iload 4, 2) := by decide +kernel
theorem dX5_greatest_21 : decode cX5_greatest 21 = .ok (.aload_n 0, 1) := by decide +kernel
theorem dX5_greatest_22 : decode cX5_greatest 22 = .ok (.arraylength, 1) := by decide +kernel
theorem dX5_greatest_23 : decode cX5_greatest 23 = .ok (.if_icmp .ge 18, 3) := by decide +kernel
theorem dX5_greatest_26 : decode cX5_greatest 26 = .ok (.iload_n 3, 1) := by decide +kernel
theorem dX5_greatest_27 : decode cX5_greatest 27 = .ok (.aload_n 0, 1) := by decide +kernel
theorem dX5_greatest_28 : decode cX5_greatest 28 = .ok (.iload 4, 2) := by decide +kernel
theorem dX5_greatest_30 : decode cX5_greatest 30 = .ok (.iaload, 1) := by decide +kernel
theorem dX5_greatest_31 : decode cX5_greatest 31 = .ok (.invokestatic 146, 3) := by decide +kernel
theorem dX5_greatest_34 : decode cX5_greatest 34 = .ok (.istore_n 3, 1) := by decide +kernel
theorem dX5_greatest_35 : decode cX5_greatest 35 = .ok (.iinc 4 1, 3) := by decide +kernel
theorem dX5_greatest_38 : decode cX5_greatest 38 = .ok (.goto (-32), 3) := by decide +kernel
theorem dX5_greatest_41 : decode cX5_greatest 41 = .ok (.iload_n 3, 1) := by decide +kernel
theorem dX5_greatest_42 : decode cX5_greatest 42 = .ok (.ireturn, 1) := by decide +kernel
set_option maxHeartbeats 4000000 in
set_option maxRecDepth 100000 in
theorem K_X5_greatest (l : Launch) (D : va_G) (a : Nat) (N : Nat) (st : Nat) (f : Nat → Int32) (cI : ClassId) (hN : N < 2 ^ 31) (hst : st + 8 ≤ N) (hb_ : ∀ s, s < 8 → -1000000 < f (st + s)) (sz : Nat) : Ki l yX5_greatest wsX5_greatest 1 40 0 0 D [.ref a, .int (nI st), .int 8] [(a, .inl (cI, N, .inl f))] [(cI, .int)] sz (fun (r : Int32) (_ : Unit) => r = (sp_most (fun s => f (st + s)) 7)) (fun (_ : Unit) => [(a, .inl (cI, N, .inl f))]) (fun (_ : Unit) => [(cI, .int)]) := by
  unfold Ki
  refine g_ofW (cc := cX5_greatest) (lv := [(0, .ref a), (1, .int (nI st)), (2, .int 8)]) (by decide) rfl (Nat.le_of_ble_eq_true rfl) rfl ?_
  intro p e s m args below meth c A Q hA hQ F hr hnm
  have hts := F.2.2.2.2.1
  have w_0 : (Cond.constant RX5 162 (-1000000)).before args s = true := hts _ (List.mem_of_getElem? (i := 1) rfl)
  have w_1 : (Cond.methodLink RX5 146 Lib.Math.max.name).before args s = true := hts _ (List.mem_of_getElem? (i := 2) rfl)
  have w_2 : (Cond.static Lib.Math.max.name).before args s = true := hts _ (List.mem_of_getElem? (i := 3) rfl)
  have w_3 : (Cond.initialized "java/lang/Math").before args s = true := hts _ (List.mem_of_getElem? (i := 4) rfl)
  have w_4 : (Cond.code Lib.Math.max.name Lib.Math.max.code 2 (some .int)).before args s = true := hts _ (List.mem_of_getElem? (i := 5) rfl)
  refine g_ldc F w_0 dX5_greatest_0 ?_
  refine g_istore_n F [(3, .int (-1000000)), (0, .ref a), (1, .int (nI st)), (2, .int 8)] dX5_greatest_2 rfl (by decide) rfl ?_
  refine g_iload_n F 2 dX5_greatest_3 rfl rfl ?_
  refine g_istore F [(4, .int (nI st)), (3, .int (-1000000)), (0, .ref a), (1, .int (nI st)), (2, .int 8)] dX5_greatest_4 (by decide) rfl ?_
  refine g_locals [(0, .ref a), (1, .int (nI st)), (2, .int 8), (3, .int (-1000000)), (4, .int (nI st))] [2, 3, 4, 1, 0] rfl ?_
  have loop_6 : ∀ (fuel : Nat) (k : Nat) (w : Int32), 8 - k < fuel → (k ≤ 8) → (k = 0 → w = -1000000) → (∀ j, k = j + 1 → w = sp_most (fun s => f (st + s)) j) → gG p l e (gR 1 0 0 40) s m args below meth c D A 5 Q 0 0 [(a, .inl (cI, N, .inl f))] [(cI, .int)] [(0, .ref a), (1, .int (nI st)), (2, .int 8), (3, .int w), (4, .int (nI (st + k)))] 6 [] := by
    intro fuel_6
    induction fuel_6 with
    | zero => intro k w hm; exact absurd hm (Nat.not_lt_zero _)
    | succ fuel_6 ih_6 =>
      intro k w hm6 hk0 hw0 hw
      refine g_iload F 4 dX5_greatest_6 rfl ?_
      refine g_iload_n F 1 dX5_greatest_8 rfl rfl ?_
      refine g_iload_n F 2 dX5_greatest_9 rfl rfl ?_
      refine g_iadd F dX5_greatest_10 ?_
      refine g_fold (nI (st + 8)) (nI_add st 8) ?_
      refine g_icmp_ge F 41 dX5_greatest_11 (by decide) (fun c_11 => ?_) (fun c_11 => ?_)
      · have hk : k = 8 := by rcases Nat.lt_or_ge k 8 with h | h; exact absurd c_11 (nI_ge (a := st + k) (b := st + 8) (by omega) (by omega)); omega
        refine g_iload_n F 3 dX5_greatest_41 rfl rfl ?_
        exact g_iret F hA hQ hr () (hw 7 hk) [0] [0] rfl (by decide) rfl rfl dX5_greatest_42
      · have hk : k < 8 := by rcases Nat.lt_or_ge k 8 with h | h; exact h; exact absurd (nI_le (a := st + 8) (b := st + k) (by omega) (by omega)) c_11
        refine g_iload F 4 dX5_greatest_14 rfl ?_
        refine g_if_lt F 41 dX5_greatest_16 (by decide) (fun h9 => absurd h9 (nI_pos (by omega))) (fun c_16 => ?_)
        refine g_iload F 4 dX5_greatest_19 rfl ?_
        refine g_aload_n F 0 dX5_greatest_21 rfl rfl ?_
        refine g_alen F 0 0 rfl rfl (nI N) rfl dX5_greatest_22 ?_
        refine g_icmp_ge F 41 dX5_greatest_23 (by decide) (fun h9 => absurd h9 (nI_ge (by omega) hN)) (fun c_23 => ?_)
        refine g_iload_n F 3 dX5_greatest_26 rfl rfl ?_
        refine g_aload_n F 0 dX5_greatest_27 rfl rfl ?_
        refine g_iload F 4 dX5_greatest_28 rfl ?_
        refine g_iald F 0 0 rfl rfl (vp_in_nI (by omega) hN) dX5_greatest_30 ?_
        refine g_fold (f (st + k)) (by rw [nI_clamp (by omega)]) ?_
        refine g_mmax F w_1 w_2 w_3 w_4 (Nat.le_of_ble_eq_true rfl) (Nat.le_of_ble_eq_true rfl) (Nat.le_of_ble_eq_true rfl) (Nat.le_of_ble_eq_true rfl) dX5_greatest_31 ?_
        refine g_istore_n F [(3, .int (if w < (f (st + k)) then (f (st + k)) else w)), (0, .ref a), (1, .int (nI st)), (2, .int 8), (4, .int (nI (st + k)))] dX5_greatest_34 rfl (by decide) rfl ?_
        refine g_iinc F (j := 4) (nI (st + (k + 1))) [(4, .int (nI (st + (k + 1)))), (3, .int (if w < (f (st + k)) then (f (st + k)) else w)), (0, .ref a), (1, .int (nI st)), (2, .int 8)] dX5_greatest_35 rfl (nI_1 (st + k)) (by decide) rfl ?_
        refine g_goto F 6 dX5_greatest_38 (by decide) ?_
        refine g_locals [(0, .ref a), (1, .int (nI st)), (2, .int 8), (3, .int (if w < (f (st + k)) then (f (st + k)) else w)), (4, .int (nI (st + (k + 1))))] [2, 3, 4, 1, 0] rfl ?_
        exact ih_6 (k + 1) (if w < (f (st + k)) then (f (st + k)) else w) (by omega) (hk) (fun h => absurd h (by omega)) (sp_most_next (fun s => f (st + s)) k w (hb_ 0 (by decide)) hw0 hw)
  exact loop_6 (_ + 1) 0 (-1000000) (Nat.lt_succ_self _) (Nat.zero_le _) (fun _ => rfl) (fun j hj => absurd hj (by omega))

theorem dX5_least_0 : decode cX5_least 0 = .ok (.ldc 163, 2) := by decide +kernel
theorem dX5_least_2 : decode cX5_least 2 = .ok (.istore_n 3, 1) := by decide +kernel
theorem dX5_least_3 : decode cX5_least 3 = .ok (.iload_n 1, 1) := by decide +kernel
theorem dX5_least_4 : decode cX5_least 4 = .ok (.istore 4, 2) := by decide +kernel
theorem dX5_least_6 : decode cX5_least 6 = .ok (.iload 4, 2) := by decide +kernel
theorem dX5_least_8 : decode cX5_least 8 = .ok (.iload_n 1, 1) := by decide +kernel
theorem dX5_least_9 : decode cX5_least 9 = .ok (.iload_n 2, 1) := by decide +kernel
theorem dX5_least_10 : decode cX5_least 10 = .ok (.iadd, 1) := by decide +kernel
theorem dX5_least_11 : decode cX5_least 11 = .ok (.if_icmp .ge 30, 3) := by decide +kernel
theorem dX5_least_14 : decode cX5_least 14 = .ok (.iload 4, 2) := by decide +kernel
theorem dX5_least_16 : decode cX5_least 16 = .ok (.ifCond .lt 25, 3) := by decide +kernel
theorem dX5_least_19 : decode cX5_least 19 = .ok (.iload 4, 2) := by decide +kernel
theorem dX5_least_21 : decode cX5_least 21 = .ok (.aload_n 0, 1) := by decide +kernel
theorem dX5_least_22 : decode cX5_least 22 = .ok (.arraylength, 1) := by decide +kernel
theorem dX5_least_23 : decode cX5_least 23 = .ok (.if_icmp .ge 18, 3) := by decide +kernel
theorem dX5_least_26 : decode cX5_least 26 = .ok (.iload_n 3, 1) := by decide +kernel
theorem dX5_least_27 : decode cX5_least 27 = .ok (.aload_n 0, 1) := by decide +kernel
theorem dX5_least_28 : decode cX5_least 28 = .ok (.iload 4, 2) := by decide +kernel
theorem dX5_least_30 : decode cX5_least 30 = .ok (.iaload, 1) := by decide +kernel
theorem dX5_least_31 : decode cX5_least 31 = .ok (.invokestatic 159, 3) := by decide +kernel
theorem dX5_least_34 : decode cX5_least 34 = .ok (.istore_n 3, 1) := by decide +kernel
theorem dX5_least_35 : decode cX5_least 35 = .ok (.iinc 4 1, 3) := by decide +kernel
theorem dX5_least_38 : decode cX5_least 38 = .ok (.goto (-32), 3) := by decide +kernel
theorem dX5_least_41 : decode cX5_least 41 = .ok (.iload_n 3, 1) := by decide +kernel
theorem dX5_least_42 : decode cX5_least 42 = .ok (.ireturn, 1) := by decide +kernel
set_option maxHeartbeats 4000000 in
set_option maxRecDepth 100000 in
theorem K_X5_least (l : Launch) (D : va_G) (a : Nat) (N : Nat) (st : Nat) (f : Nat → Int32) (cI : ClassId) (hN : N < 2 ^ 31) (hst : st + 8 ≤ N) (hb_ : ∀ s, s < 8 → f (st + s) < 1000000) (sz : Nat) : Ki l yX5_least wsX5_least 1 40 0 0 D [.ref a, .int (nI st), .int 8] [(a, .inl (cI, N, .inl f))] [(cI, .int)] sz (fun (r : Int32) (_ : Unit) => r = (sp_least (fun s => f (st + s)) 7)) (fun (_ : Unit) => [(a, .inl (cI, N, .inl f))]) (fun (_ : Unit) => [(cI, .int)]) := by
  unfold Ki
  refine g_ofW (cc := cX5_least) (lv := [(0, .ref a), (1, .int (nI st)), (2, .int 8)]) (by decide) rfl (Nat.le_of_ble_eq_true rfl) rfl ?_
  intro p e s m args below meth c A Q hA hQ F hr hnm
  have hts := F.2.2.2.2.1
  have w_0 : (Cond.constant RX5 163 (1000000)).before args s = true := hts _ (List.mem_of_getElem? (i := 1) rfl)
  have w_1 : (Cond.methodLink RX5 159 Lib.Math.min.name).before args s = true := hts _ (List.mem_of_getElem? (i := 2) rfl)
  have w_2 : (Cond.static Lib.Math.min.name).before args s = true := hts _ (List.mem_of_getElem? (i := 3) rfl)
  have w_3 : (Cond.initialized "java/lang/Math").before args s = true := hts _ (List.mem_of_getElem? (i := 4) rfl)
  have w_4 : (Cond.code Lib.Math.min.name Lib.Math.min.code 2 (some .int)).before args s = true := hts _ (List.mem_of_getElem? (i := 5) rfl)
  refine g_ldc F w_0 dX5_least_0 ?_
  refine g_istore_n F [(3, .int 1000000), (0, .ref a), (1, .int (nI st)), (2, .int 8)] dX5_least_2 rfl (by decide) rfl ?_
  refine g_iload_n F 2 dX5_least_3 rfl rfl ?_
  refine g_istore F [(4, .int (nI st)), (3, .int 1000000), (0, .ref a), (1, .int (nI st)), (2, .int 8)] dX5_least_4 (by decide) rfl ?_
  refine g_locals [(0, .ref a), (1, .int (nI st)), (2, .int 8), (3, .int 1000000), (4, .int (nI st))] [2, 3, 4, 1, 0] rfl ?_
  have loop_6 : ∀ (fuel : Nat) (k : Nat) (w : Int32), 8 - k < fuel → (k ≤ 8) → (k = 0 → w = 1000000) → (∀ j, k = j + 1 → w = sp_least (fun s => f (st + s)) j) → gG p l e (gR 1 0 0 40) s m args below meth c D A 5 Q 0 0 [(a, .inl (cI, N, .inl f))] [(cI, .int)] [(0, .ref a), (1, .int (nI st)), (2, .int 8), (3, .int w), (4, .int (nI (st + k)))] 6 [] := by
    intro fuel_6
    induction fuel_6 with
    | zero => intro k w hm; exact absurd hm (Nat.not_lt_zero _)
    | succ fuel_6 ih_6 =>
      intro k w hm6 hk0 hw0 hw
      refine g_iload F 4 dX5_least_6 rfl ?_
      refine g_iload_n F 1 dX5_least_8 rfl rfl ?_
      refine g_iload_n F 2 dX5_least_9 rfl rfl ?_
      refine g_iadd F dX5_least_10 ?_
      refine g_fold (nI (st + 8)) (nI_add st 8) ?_
      refine g_icmp_ge F 41 dX5_least_11 (by decide) (fun c_11 => ?_) (fun c_11 => ?_)
      · have hk : k = 8 := by rcases Nat.lt_or_ge k 8 with h | h; exact absurd c_11 (nI_ge (a := st + k) (b := st + 8) (by omega) (by omega)); omega
        refine g_iload_n F 3 dX5_least_41 rfl rfl ?_
        exact g_iret F hA hQ hr () (hw 7 hk) [0] [0] rfl (by decide) rfl rfl dX5_least_42
      · have hk : k < 8 := by rcases Nat.lt_or_ge k 8 with h | h; exact h; exact absurd (nI_le (a := st + 8) (b := st + k) (by omega) (by omega)) c_11
        refine g_iload F 4 dX5_least_14 rfl ?_
        refine g_if_lt F 41 dX5_least_16 (by decide) (fun h9 => absurd h9 (nI_pos (by omega))) (fun c_16 => ?_)
        refine g_iload F 4 dX5_least_19 rfl ?_
        refine g_aload_n F 0 dX5_least_21 rfl rfl ?_
        refine g_alen F 0 0 rfl rfl (nI N) rfl dX5_least_22 ?_
        refine g_icmp_ge F 41 dX5_least_23 (by decide) (fun h9 => absurd h9 (nI_ge (by omega) hN)) (fun c_23 => ?_)
        refine g_iload_n F 3 dX5_least_26 rfl rfl ?_
        refine g_aload_n F 0 dX5_least_27 rfl rfl ?_
        refine g_iload F 4 dX5_least_28 rfl ?_
        refine g_iald F 0 0 rfl rfl (vp_in_nI (by omega) hN) dX5_least_30 ?_
        refine g_fold (f (st + k)) (by rw [nI_clamp (by omega)]) ?_
        refine g_mmin F w_1 w_2 w_3 w_4 (Nat.le_of_ble_eq_true rfl) (Nat.le_of_ble_eq_true rfl) (Nat.le_of_ble_eq_true rfl) (Nat.le_of_ble_eq_true rfl) dX5_least_31 ?_
        refine g_istore_n F [(3, .int (if (f (st + k)) < w then (f (st + k)) else w)), (0, .ref a), (1, .int (nI st)), (2, .int 8), (4, .int (nI (st + k)))] dX5_least_34 rfl (by decide) rfl ?_
        refine g_iinc F (j := 4) (nI (st + (k + 1))) [(4, .int (nI (st + (k + 1)))), (3, .int (if (f (st + k)) < w then (f (st + k)) else w)), (0, .ref a), (1, .int (nI st)), (2, .int 8)] dX5_least_35 rfl (nI_1 (st + k)) (by decide) rfl ?_
        refine g_goto F 6 dX5_least_38 (by decide) ?_
        refine g_locals [(0, .ref a), (1, .int (nI st)), (2, .int 8), (3, .int (if (f (st + k)) < w then (f (st + k)) else w)), (4, .int (nI (st + (k + 1))))] [2, 3, 4, 1, 0] rfl ?_
        exact ih_6 (k + 1) (if (f (st + k)) < w then (f (st + k)) else w) (by omega) (hk) (fun h => absurd h (by omega)) (sp_least_next (fun s => f (st + s)) k w (hb_ 0 (by decide)) hw0 hw)
  exact loop_6 (_ + 1) 0 1000000 (Nat.lt_succ_self _) (Nat.zero_le _) (fun _ => rfl) (fun j hj => absurd hj (by omega))

theorem dX5_within_0 : decode cX5_within 0 = .ok (.iload_n 1, 1) := by decide +kernel
theorem dX5_within_1 : decode cX5_within 1 = .ok (.iload_n 2, 1) := by decide +kernel
theorem dX5_within_2 : decode cX5_within 2 = .ok (.iload_n 0, 1) := by decide +kernel
theorem dX5_within_3 : decode cX5_within 3 = .ok (.invokestatic 159, 3) := by decide +kernel
theorem dX5_within_6 : decode cX5_within 6 = .ok (.invokestatic 146, 3) := by decide +kernel
theorem dX5_within_9 : decode cX5_within 9 = .ok (.ireturn, 1) := by decide +kernel
set_option maxHeartbeats 4000000 in
set_option maxRecDepth 100000 in
theorem K_X5_within (l : Launch) (D : va_G) (v_ : Int32) (lo_ : Int32) (hi_ : Int32) (sz : Nat) : Ki l yX5_within wsX5_within 1 40 0 0 D [.int v_, .int lo_, .int hi_] [] [] sz (fun (r : Int32) (_ : Unit) => r = (if lo_ < (if v_ < hi_ then v_ else hi_) then (if v_ < hi_ then v_ else hi_) else lo_)) (fun (_ : Unit) => []) (fun (_ : Unit) => []) := by
  unfold Ki
  refine g_ofW (cc := cX5_within) (lv := [(0, .int v_), (1, .int lo_), (2, .int hi_)]) (by decide) rfl (Nat.le_of_ble_eq_true rfl) rfl ?_
  intro p e s m args below meth c A Q hA hQ F hr hnm
  have hts := F.2.2.2.2.1
  have w_0 : (Cond.methodLink RX5 159 Lib.Math.min.name).before args s = true := hts _ (List.mem_of_getElem? (i := 1) rfl)
  have w_1 : (Cond.static Lib.Math.min.name).before args s = true := hts _ (List.mem_of_getElem? (i := 2) rfl)
  have w_2 : (Cond.initialized "java/lang/Math").before args s = true := hts _ (List.mem_of_getElem? (i := 3) rfl)
  have w_3 : (Cond.code Lib.Math.min.name Lib.Math.min.code 2 (some .int)).before args s = true := hts _ (List.mem_of_getElem? (i := 4) rfl)
  have w_4 : (Cond.methodLink RX5 146 Lib.Math.max.name).before args s = true := hts _ (List.mem_of_getElem? (i := 5) rfl)
  have w_5 : (Cond.static Lib.Math.max.name).before args s = true := hts _ (List.mem_of_getElem? (i := 6) rfl)
  have w_6 : (Cond.code Lib.Math.max.name Lib.Math.max.code 2 (some .int)).before args s = true := hts _ (List.mem_of_getElem? (i := 7) rfl)
  refine g_iload_n F 1 dX5_within_0 rfl rfl ?_
  refine g_iload_n F 2 dX5_within_1 rfl rfl ?_
  refine g_iload_n F 0 dX5_within_2 rfl rfl ?_
  refine g_mmin F w_0 w_1 w_2 w_3 (Nat.le_of_ble_eq_true rfl) (Nat.le_of_ble_eq_true rfl) (Nat.le_of_ble_eq_true rfl) (Nat.le_of_ble_eq_true rfl) dX5_within_3 ?_
  refine g_mmax F w_4 w_5 w_2 w_6 (Nat.le_of_ble_eq_true rfl) (Nat.le_of_ble_eq_true rfl) (Nat.le_of_ble_eq_true rfl) (Nat.le_of_ble_eq_true rfl) dX5_within_6 ?_
  exact g_iret F hA hQ hr () (rfl) [] [] rfl (by decide) rfl rfl dX5_within_9

theorem dX5_mountTeeth_0 : decode cX5_mountTeeth 0 = .ok (.aload_n 0, 1) := by decide +kernel
theorem dX5_mountTeeth_1 : decode cX5_mountTeeth 1 = .ok (.iconst 0, 1) := by decide +kernel
theorem dX5_mountTeeth_2 : decode cX5_mountTeeth 2 = .ok (.putfield 53, 3) := by decide +kernel
theorem dX5_mountTeeth_5 : decode cX5_mountTeeth 5 = .ok (.aload_n 0, 1) := by decide +kernel
theorem dX5_mountTeeth_6 : decode cX5_mountTeeth 6 = .ok (.getfield 50, 3) := by decide +kernel
theorem dX5_mountTeeth_9 : decode cX5_mountTeeth 9 = .ok (.ifCond .ne 59, 3) := by decide +kernel
theorem dX5_mountTeeth_12 : decode cX5_mountTeeth 12 = .ok (.iconst 0, 1) := by decide +kernel
theorem dX5_mountTeeth_13 : decode cX5_mountTeeth 13 = .ok (.istore_n 1, 1) := by decide +kernel
theorem dX5_mountTeeth_14 : decode cX5_mountTeeth 14 = .ok (.iload_n 1, 1) := by decide +kernel
theorem dX5_mountTeeth_15 : decode cX5_mountTeeth 15 = .ok (.aload_n 0, 1) := by decide +kernel
theorem dX5_mountTeeth_16 : decode cX5_mountTeeth 16 = .ok (.getfield 29, 3) := by decide +kernel
theorem dX5_mountTeeth_19 : decode cX5_mountTeeth 19 = .ok (.getfield 56, 3) := by decide +kernel
theorem dX5_mountTeeth_22 : decode cX5_mountTeeth 22 = .ok (.bipush 10, 2) := by decide +kernel
theorem dX5_mountTeeth_24 : decode cX5_mountTeeth 24 = .ok (.iaload, 1) := by decide +kernel
theorem dX5_mountTeeth_25 : decode cX5_mountTeeth 25 = .ok (.if_icmp .ge 42, 3) := by decide +kernel
theorem dX5_mountTeeth_28 : decode cX5_mountTeeth 28 = .ok (.iload_n 1, 1) := by decide +kernel
theorem dX5_mountTeeth_29 : decode cX5_mountTeeth 29 = .ok (.iconst 4, 1) := by decide +kernel
theorem dX5_mountTeeth_30 : decode cX5_mountTeeth 30 = .ok (.if_icmp .ge 37, 3) := by decide +kernel
theorem dX5_mountTeeth_33 : decode cX5_mountTeeth 33 = .ok (.aload_n 0, 1) := by decide +kernel
theorem dX5_mountTeeth_34 : decode cX5_mountTeeth 34 = .ok (.getfield 11, 3) := by decide +kernel
theorem dX5_mountTeeth_37 : decode cX5_mountTeeth 37 = .ok (.iload_n 1, 1) := by decide +kernel
theorem dX5_mountTeeth_38 : decode cX5_mountTeeth 38 = .ok (.aload_n 0, 1) := by decide +kernel
theorem dX5_mountTeeth_39 : decode cX5_mountTeeth 39 = .ok (.getfield 29, 3) := by decide +kernel
theorem dX5_mountTeeth_42 : decode cX5_mountTeeth 42 = .ok (.getfield 56, 3) := by decide +kernel
theorem dX5_mountTeeth_45 : decode cX5_mountTeeth 45 = .ok (.bipush 20, 2) := by decide +kernel
theorem dX5_mountTeeth_47 : decode cX5_mountTeeth 47 = .ok (.iload_n 1, 1) := by decide +kernel
theorem dX5_mountTeeth_48 : decode cX5_mountTeeth 48 = .ok (.iadd, 1) := by decide +kernel
theorem dX5_mountTeeth_49 : decode cX5_mountTeeth 49 = .ok (.iaload, 1) := by decide +kernel
theorem dX5_mountTeeth_50 : decode cX5_mountTeeth 50 = .ok (.iastore, 1) := by decide +kernel
theorem dX5_mountTeeth_51 : decode cX5_mountTeeth 51 = .ok (.aload_n 0, 1) := by decide +kernel
theorem dX5_mountTeeth_52 : decode cX5_mountTeeth 52 = .ok (.dup, 1) := by decide +kernel
theorem dX5_mountTeeth_53 : decode cX5_mountTeeth 53 = .ok (.getfield 53, 3) := by decide +kernel
theorem dX5_mountTeeth_56 : decode cX5_mountTeeth 56 = .ok (.iconst 1, 1) := by decide +kernel
theorem dX5_mountTeeth_57 : decode cX5_mountTeeth 57 = .ok (.iadd, 1) := by decide +kernel
theorem dX5_mountTeeth_58 : decode cX5_mountTeeth 58 = .ok (.putfield 53, 3) := by decide +kernel
theorem dX5_mountTeeth_61 : decode cX5_mountTeeth 61 = .ok (.iinc 1 1, 3) := by decide +kernel
theorem dX5_mountTeeth_64 : decode cX5_mountTeeth 64 = .ok (.goto (-50), 3) := by decide +kernel
theorem dX5_mountTeeth_67 : decode cX5_mountTeeth 67 = .ok (.return_, 1) := by decide +kernel
theorem dX5_mountTeeth_68 : decode cX5_mountTeeth 68 = .ok (.iconst 0, 1) := by decide +kernel
theorem dX5_mountTeeth_69 : decode cX5_mountTeeth 69 = .ok (.istore_n 1, 1) := by decide +kernel
theorem dX5_mountTeeth_70 : decode cX5_mountTeeth 70 = .ok (.iload_n 1, 1) := by decide +kernel
theorem dX5_mountTeeth_71 : decode cX5_mountTeeth 71 = .ok (.bipush 16, 2) := by decide +kernel
theorem dX5_mountTeeth_73 : decode cX5_mountTeeth 73 = .ok (.if_icmp .ge 48, 3) := by decide +kernel
theorem dX5_mountTeeth_76 : decode cX5_mountTeeth 76 = .ok (.aload_n 0, 1) := by decide +kernel
theorem dX5_mountTeeth_77 : decode cX5_mountTeeth 77 = .ok (.getfield 53, 3) := by decide +kernel
theorem dX5_mountTeeth_80 : decode cX5_mountTeeth 80 = .ok (.iconst 4, 1) := by decide +kernel
theorem dX5_mountTeeth_81 : decode cX5_mountTeeth 81 = .ok (.if_icmp .ge 40, 3) := by decide +kernel
theorem dX5_mountTeeth_84 : decode cX5_mountTeeth 84 = .ok (.aload_n 0, 1) := by decide +kernel
theorem dX5_mountTeeth_85 : decode cX5_mountTeeth 85 = .ok (.getfield 50, 3) := by decide +kernel
theorem dX5_mountTeeth_88 : decode cX5_mountTeeth 88 = .ok (.iload_n 1, 1) := by decide +kernel
theorem dX5_mountTeeth_89 : decode cX5_mountTeeth 89 = .ok (.ishr, 1) := by decide +kernel
theorem dX5_mountTeeth_90 : decode cX5_mountTeeth 90 = .ok (.iconst 1, 1) := by decide +kernel
theorem dX5_mountTeeth_91 : decode cX5_mountTeeth 91 = .ok (.iand, 1) := by decide +kernel
theorem dX5_mountTeeth_92 : decode cX5_mountTeeth 92 = .ok (.ifCond .eq 23, 3) := by decide +kernel
theorem dX5_mountTeeth_95 : decode cX5_mountTeeth 95 = .ok (.aload_n 0, 1) := by decide +kernel
theorem dX5_mountTeeth_96 : decode cX5_mountTeeth 96 = .ok (.getfield 11, 3) := by decide +kernel
theorem dX5_mountTeeth_99 : decode cX5_mountTeeth 99 = .ok (.aload_n 0, 1) := by decide +kernel
theorem dX5_mountTeeth_100 : decode cX5_mountTeeth 100 = .ok (.getfield 53, 3) := by decide +kernel
theorem dX5_mountTeeth_103 : decode cX5_mountTeeth 103 = .ok (.iload_n 1, 1) := by decide +kernel
theorem dX5_mountTeeth_104 : decode cX5_mountTeeth 104 = .ok (.iastore, 1) := by decide +kernel
theorem dX5_mountTeeth_105 : decode cX5_mountTeeth 105 = .ok (.aload_n 0, 1) := by decide +kernel
theorem dX5_mountTeeth_106 : decode cX5_mountTeeth 106 = .ok (.dup, 1) := by decide +kernel
theorem dX5_mountTeeth_107 : decode cX5_mountTeeth 107 = .ok (.getfield 53, 3) := by decide +kernel
theorem dX5_mountTeeth_110 : decode cX5_mountTeeth 110 = .ok (.iconst 1, 1) := by decide +kernel
theorem dX5_mountTeeth_111 : decode cX5_mountTeeth 111 = .ok (.iadd, 1) := by decide +kernel
theorem dX5_mountTeeth_112 : decode cX5_mountTeeth 112 = .ok (.putfield 53, 3) := by decide +kernel
theorem dX5_mountTeeth_115 : decode cX5_mountTeeth 115 = .ok (.iinc 1 1, 3) := by decide +kernel
theorem dX5_mountTeeth_118 : decode cX5_mountTeeth 118 = .ok (.goto (-48), 3) := by decide +kernel
theorem dX5_mountTeeth_121 : decode cX5_mountTeeth 121 = .ok (.return_, 1) := by decide +kernel
set_option maxHeartbeats 4000000 in
set_option maxRecDepth 100000 in
theorem K_X5_mountTeeth0 (l : Launch) (D : va_G) (xl : Nat) (xs : Nat) (la_t : Nat) (la_h : Nat) (la_u : Nat) (la_o : Nat) (la_x : Nat) (n : Nat) (fo : Nat) (wa : Nat) (we : Nat) (cI : ClassId) (l_ring : Int32) (l_speed : Int32) (l_feed : Int32) (l_turns : Int32) (l_teethMany : Int32) (l_wear : Int32) (l_x : Int32) (l_v : Int32) (l_wave : Int32) (l_time : Int32) (l_out : Int32) (l_farthest : Int32) (l_begun : Int32) (ft : Nat → Int32) (sz : Nat) : Kv l yX5_mountTeeth wsX5_mountTeeth 1 30 0 0 D [.ref xl] [(xl, .inr (4, [.ref xs, .int l_ring, .int l_speed, .int l_feed, .int l_turns, .ref la_t, .int 0, .int l_teethMany, .ref la_h, .ref la_u, .ref la_o, .ref la_x, .int l_wear, .int l_x, .int l_v, .int l_wave, .int l_time, .int l_out, .int l_farthest, .int l_begun])), (la_t, .inl (cI, 4, .inl ft)), (xs, .inr (6, [.ref n, .ref fo, .ref wa, .ref we])), (n, .inl (cI, 36, .inl g_nums))] [(cI, .int)] sz (fun (_ : Unit) => True) (fun (_ : Unit) => [(xl, .inr (4, [.ref xs, .int l_ring, .int l_speed, .int l_feed, .int l_turns, .ref la_t, .int 0, .int 1, .ref la_h, .ref la_u, .ref la_o, .ref la_x, .int l_wear, .int l_x, .int l_v, .int l_wave, .int l_time, .int l_out, .int l_farthest, .int l_begun])), (la_t, .inl (cI, 4, .inl (upd ft 0 0))), (xs, .inr (6, [.ref n, .ref fo, .ref wa, .ref we])), (n, .inl (cI, 36, .inl g_nums))]) (fun (_ : Unit) => [(cI, .int)]) := by
  unfold Kv
  refine g_ofW (cc := cX5_mountTeeth) (lv := [(0, .ref xl)]) (by decide) rfl (Nat.le_of_ble_eq_true rfl) rfl ?_
  intro p e s m args below meth c A Q hA hQ F hr hnm
  have hts := F.2.2.2.2.1
  have w_0 : (Cond.fieldLink RX5 53 "QuietCut$Lathe" "teethMany" "I").before args s = true := hts _ (List.mem_of_getElem? (i := 1) rfl)
  have i_X5 : ∀ w ∈ u_ws RX5 TX5 20, w ∈ wsX5_mountTeeth := fun _ h => List.mem_cons_of_mem _ (List.mem_append_left _ (List.mem_append_right _ h))
  have w_1 : (Cond.fieldLink RX5 50 "QuietCut$Lathe" "teethSet" "I").before args s = true := hts _ (List.mem_of_getElem? (i := 2) rfl)
  have w_2 : (Cond.fieldLink RX5 29 "QuietCut$Lathe" "shop" "LQuietCut$Shop;").before args s = true := hts _ (List.mem_of_getElem? (i := 3) rfl)
  have w_3 : (Cond.fieldLink RX5 56 "QuietCut$Shop" "numbers" "[I").before args s = true := hts _ (List.mem_of_getElem? (i := 4) rfl)
  have i_X7 : ∀ w ∈ u_ws RX7 TX7 4, w ∈ wsX5_mountTeeth := fun _ h => List.mem_cons_of_mem _ (List.mem_append_right _ h)
  have w_4 : (Cond.fieldLink RX5 11 "QuietCut$Lathe" "teeth" "[I").before args s = true := hts _ (List.mem_of_getElem? (i := 5) rfl)
  refine g_aload_n F 0 dX5_mountTeeth_0 rfl rfl ?_
  refine g_iconst F 0 dX5_mountTeeth_1 (by decide) ?_
  refine g_put (C := RX5) (T := TX5) (N := 20) (ty := .int) (v := .int 0) F i_X5 0 rfl rfl 7 (by decide) w_0 rfl tyX5 tyX5_ok nmX5 rfl (by decide +kernel) rfl rfl (Nat.le_of_ble_eq_true rfl) [(xl, .inr (4, [.ref xs, .int l_ring, .int l_speed, .int l_feed, .int l_turns, .ref la_t, .int 0, .int 0, .ref la_h, .ref la_u, .ref la_o, .ref la_x, .int l_wear, .int l_x, .int l_v, .int l_wave, .int l_time, .int l_out, .int l_farthest, .int l_begun])), (la_t, .inl (cI, 4, .inl ft)), (xs, .inr (6, [.ref n, .ref fo, .ref wa, .ref we])), (n, .inl (cI, 36, .inl g_nums))] rfl dX5_mountTeeth_2 ?_
  refine g_aload_n F 0 dX5_mountTeeth_5 rfl rfl ?_
  refine g_get (C := RX5) (T := TX5) (N := 20) (v := .int 0) F i_X5 0 rfl rfl 6 (by decide) w_1 rfl rfl dX5_mountTeeth_6 ?_
  refine g_if_ne F 68 dX5_mountTeeth_9 (by decide) (fun h9 => absurd (by decide) h9) (fun c_9 => ?_)
  refine g_iconst F 0 dX5_mountTeeth_12 (by decide) ?_
  refine g_istore_n F [(1, .int 0), (0, .ref xl)] dX5_mountTeeth_13 rfl (by decide) rfl ?_
  refine g_iload_n F 0 dX5_mountTeeth_14 rfl rfl ?_
  refine g_aload_n F 1 dX5_mountTeeth_15 rfl rfl ?_
  refine g_get (C := RX5) (T := TX5) (N := 20) (v := .ref xs) F i_X5 0 rfl rfl 0 (by decide) w_2 rfl rfl dX5_mountTeeth_16 ?_
  refine g_get (C := RX7) (T := TX7) (N := 4) (v := .ref n) F i_X7 2 rfl rfl 0 (by decide) w_3 rfl rfl dX5_mountTeeth_19 ?_
  refine g_bipush F 10 dX5_mountTeeth_22 (by decide) ?_
  refine g_iald F 3 0 rfl rfl (by unfold vp_in; decide) dX5_mountTeeth_24 ?_
  refine g_fold 1 (by rfl) ?_
  refine g_icmp_ge F 67 dX5_mountTeeth_25 (by decide) (fun h9 => absurd h9 (by decide)) (fun c_25 => ?_)
  refine g_iload_n F 0 dX5_mountTeeth_28 rfl rfl ?_
  refine g_iconst F 4 dX5_mountTeeth_29 (by decide) ?_
  refine g_icmp_ge F 67 dX5_mountTeeth_30 (by decide) (fun h9 => absurd h9 (by decide)) (fun c_30 => ?_)
  refine g_aload_n F 1 dX5_mountTeeth_33 rfl rfl ?_
  refine g_get (C := RX5) (T := TX5) (N := 20) (v := .ref la_t) F i_X5 0 rfl rfl 5 (by decide) w_4 rfl rfl dX5_mountTeeth_34 ?_
  refine g_iload_n F 0 dX5_mountTeeth_37 rfl rfl ?_
  refine g_aload_n F 1 dX5_mountTeeth_38 rfl rfl ?_
  refine g_get (C := RX5) (T := TX5) (N := 20) (v := .ref xs) F i_X5 0 rfl rfl 0 (by decide) w_2 rfl rfl dX5_mountTeeth_39 ?_
  refine g_get (C := RX7) (T := TX7) (N := 4) (v := .ref n) F i_X7 2 rfl rfl 0 (by decide) w_3 rfl rfl dX5_mountTeeth_42 ?_
  refine g_bipush F 20 dX5_mountTeeth_45 (by decide) ?_
  refine g_iload_n F 0 dX5_mountTeeth_47 rfl rfl ?_
  refine g_iadd F dX5_mountTeeth_48 ?_
  refine g_fold 20 (by decide) ?_
  refine g_iald F 3 0 rfl rfl (by unfold vp_in; decide) dX5_mountTeeth_49 ?_
  refine g_fold 0 (by rfl) ?_
  refine g_iast F 1 0 rfl rfl (by unfold vp_in; decide) [(xl, .inr (4, [.ref xs, .int l_ring, .int l_speed, .int l_feed, .int l_turns, .ref la_t, .int 0, .int 0, .ref la_h, .ref la_u, .ref la_o, .ref la_x, .int l_wear, .int l_x, .int l_v, .int l_wave, .int l_time, .int l_out, .int l_farthest, .int l_begun])), (la_t, .inl (cI, 4, .inl (upd ft 0 0))), (xs, .inr (6, [.ref n, .ref fo, .ref wa, .ref we])), (n, .inl (cI, 36, .inl g_nums))] (rfl) dX5_mountTeeth_50 ?_
  refine g_aload_n F 1 dX5_mountTeeth_51 rfl rfl ?_
  refine g_dup F dX5_mountTeeth_52 rfl ?_
  refine g_get (C := RX5) (T := TX5) (N := 20) (v := .int 0) F i_X5 0 rfl rfl 7 (by decide) w_0 rfl rfl dX5_mountTeeth_53 ?_
  refine g_iconst F 1 dX5_mountTeeth_56 (by decide) ?_
  refine g_iadd F dX5_mountTeeth_57 ?_
  refine g_fold 1 (by decide) ?_
  refine g_put (C := RX5) (T := TX5) (N := 20) (ty := .int) (v := .int 1) F i_X5 0 rfl rfl 7 (by decide) w_0 rfl tyX5 tyX5_ok nmX5 rfl (by decide +kernel) rfl rfl (Nat.le_of_ble_eq_true rfl) [(xl, .inr (4, [.ref xs, .int l_ring, .int l_speed, .int l_feed, .int l_turns, .ref la_t, .int 0, .int 1, .ref la_h, .ref la_u, .ref la_o, .ref la_x, .int l_wear, .int l_x, .int l_v, .int l_wave, .int l_time, .int l_out, .int l_farthest, .int l_begun])), (la_t, .inl (cI, 4, .inl (upd ft 0 0))), (xs, .inr (6, [.ref n, .ref fo, .ref wa, .ref we])), (n, .inl (cI, 36, .inl g_nums))] rfl dX5_mountTeeth_58 ?_
  refine g_iinc F (j := 0) 1 [(1, .int 1), (0, .ref xl)] dX5_mountTeeth_61 rfl (by decide) (by decide) rfl ?_
  refine g_goto F 14 dX5_mountTeeth_64 (by decide) ?_
  refine g_iload_n F 0 dX5_mountTeeth_14 rfl rfl ?_
  refine g_aload_n F 1 dX5_mountTeeth_15 rfl rfl ?_
  refine g_get (C := RX5) (T := TX5) (N := 20) (v := .ref xs) F i_X5 0 rfl rfl 0 (by decide) w_2 rfl rfl dX5_mountTeeth_16 ?_
  refine g_get (C := RX7) (T := TX7) (N := 4) (v := .ref n) F i_X7 2 rfl rfl 0 (by decide) w_3 rfl rfl dX5_mountTeeth_19 ?_
  refine g_bipush F 10 dX5_mountTeeth_22 (by decide) ?_
  refine g_iald F 3 0 rfl rfl (by unfold vp_in; decide) dX5_mountTeeth_24 ?_
  refine g_fold 1 (by rfl) ?_
  refine g_icmp_ge F 67 dX5_mountTeeth_25 (by decide) (fun c_25 => ?_) (fun h9 => absurd (by decide) h9) 
  exact g_vret F hA hQ hr () (trivial) [0, 1, 2, 3] [0] rfl (by decide) rfl rfl dX5_mountTeeth_67

theorem dX5_begin_0 : decode cX5_begin 0 = .ok (.aload_n 0, 1) := by decide +kernel
theorem dX5_begin_1 : decode cX5_begin 1 = .ok (.invokevirtual 119, 3) := by decide +kernel
theorem dX5_begin_4 : decode cX5_begin 4 = .ok (.aload_n 0, 1) := by decide +kernel
theorem dX5_begin_5 : decode cX5_begin 5 = .ok (.getfield 20, 3) := by decide +kernel
theorem dX5_begin_8 : decode cX5_begin 8 = .ok (.iconst (-1), 1) := by decide +kernel
theorem dX5_begin_9 : decode cX5_begin 9 = .ok (.invokestatic 122, 3) := by decide +kernel
theorem dX5_begin_12 : decode cX5_begin 12 = .ok (.aload_n 0, 1) := by decide +kernel
theorem dX5_begin_13 : decode cX5_begin 13 = .ok (.iload_n 1, 1) := by decide +kernel
theorem dX5_begin_14 : decode cX5_begin 14 = .ok (.putfield 128, 3) := by decide +kernel
theorem dX5_begin_17 : decode cX5_begin 17 = .ok (.aload_n 0, 1) := by decide +kernel
theorem dX5_begin_18 : decode cX5_begin 18 = .ok (.iconst 0, 1) := by decide +kernel
theorem dX5_begin_19 : decode cX5_begin 19 = .ok (.putfield 131, 3) := by decide +kernel
theorem dX5_begin_22 : decode cX5_begin 22 = .ok (.aload_n 0, 1) := by decide +kernel
theorem dX5_begin_23 : decode cX5_begin 23 = .ok (.iconst 0, 1) := by decide +kernel
theorem dX5_begin_24 : decode cX5_begin 24 = .ok (.putfield 134, 3) := by decide +kernel
theorem dX5_begin_27 : decode cX5_begin 27 = .ok (.aload_n 0, 1) := by decide +kernel
theorem dX5_begin_28 : decode cX5_begin 28 = .ok (.iconst 0, 1) := by decide +kernel
theorem dX5_begin_29 : decode cX5_begin 29 = .ok (.putfield 137, 3) := by decide +kernel
theorem dX5_begin_32 : decode cX5_begin 32 = .ok (.aload_n 0, 1) := by decide +kernel
theorem dX5_begin_33 : decode cX5_begin 33 = .ok (.iconst 0, 1) := by decide +kernel
theorem dX5_begin_34 : decode cX5_begin 34 = .ok (.putfield 140, 3) := by decide +kernel
theorem dX5_begin_37 : decode cX5_begin 37 = .ok (.aload_n 0, 1) := by decide +kernel
theorem dX5_begin_38 : decode cX5_begin 38 = .ok (.iconst 0, 1) := by decide +kernel
theorem dX5_begin_39 : decode cX5_begin 39 = .ok (.putfield 143, 3) := by decide +kernel
theorem dX5_begin_42 : decode cX5_begin 42 = .ok (.aload_n 0, 1) := by decide +kernel
theorem dX5_begin_43 : decode cX5_begin 43 = .ok (.iconst 0, 1) := by decide +kernel
theorem dX5_begin_44 : decode cX5_begin 44 = .ok (.putfield 83, 3) := by decide +kernel
theorem dX5_begin_47 : decode cX5_begin 47 = .ok (.return_, 1) := by decide +kernel
set_option maxRecDepth 20000 in
theorem ggX5_begin_J7_fill_53178 : GoodIn wsX5_begin wsJ7_fill_53178 := goodIn_r _ [22] rfl (by decide +kernel)
set_option maxRecDepth 20000 in
theorem gX5_begin_J7_fill_53178 : GoodIn wsX5_begin (va_wsS RX5 122 yJ7_fill_53178 wsJ7_fill_53178) := goodIn_app (goodIn_of _ (by decide +kernel)) ggX5_begin_J7_fill_53178
set_option maxRecDepth 20000 in
theorem ggX5_begin_X5_mountTeeth : GoodIn wsX5_begin wsX5_mountTeeth := goodIn_r _ [13, 14, 15, 16, 17, 18, 23, 24, 25, 26, 27, 28, 29, 30, 31, 32, 33, 34, 35, 36, 37, 38, 39, 40, 41, 42, 43, 44, 45, 46] rfl (by decide +kernel)
set_option maxRecDepth 20000 in
theorem gX5_begin_X5_mountTeeth : GoodIn wsX5_begin (wsV RX5 119 RX5 yX5_mountTeeth wsX5_mountTeeth) := goodIn_app (goodIn_of _ (by decide +kernel)) ggX5_begin_X5_mountTeeth
set_option maxHeartbeats 4000000 in
set_option maxRecDepth 100000 in
theorem K_X5_begin0 (l : Launch) (D : va_G) (xl : Nat) (xs : Nat) (la_t : Nat) (la_h : Nat) (la_u : Nat) (la_o : Nat) (la_x : Nat) (n : Nat) (fo : Nat) (wa : Nat) (we : Nat) (cI : ClassId) (l_ring : Int32) (l_speed : Int32) (l_feed : Int32) (l_turns : Int32) (l_teethMany : Int32) (l_wear : Int32) (l_x : Int32) (l_v : Int32) (l_wave : Int32) (l_time : Int32) (l_out : Int32) (l_farthest : Int32) (l_begun : Int32) (ft : Nat → Int32) (fu : Nat → Int32) (wb : Int32) (sz : Nat) : Kv l yX5_begin wsX5_begin 2 53 0 0 D [.ref xl, .int wb] [(xl, .inr (4, [.ref xs, .int l_ring, .int l_speed, .int l_feed, .int l_turns, .ref la_t, .int 0, .int l_teethMany, .ref la_h, .ref la_u, .ref la_o, .ref la_x, .int l_wear, .int l_x, .int l_v, .int l_wave, .int l_time, .int l_out, .int l_farthest, .int l_begun])), (la_t, .inl (cI, 4, .inl ft)), (la_u, .inl (cI, 16, .inl fu)), (xs, .inr (6, [.ref n, .ref fo, .ref wa, .ref we])), (n, .inl (cI, 36, .inl g_nums))] [(cI, .int)] sz (fun (_ : Unit) => True) (fun (_ : Unit) => [(xl, .inr (4, [.ref xs, .int l_ring, .int l_speed, .int l_feed, .int l_turns, .ref la_t, .int 0, .int 1, .ref la_h, .ref la_u, .ref la_o, .ref la_x, .int wb, .int 0, .int 0, .int l_wave, .int 0, .int 0, .int 0, .int 0])), (la_t, .inl (cI, 4, .inl (upd ft 0 0))), (la_u, .inl (cI, 16, .inl (fun _ => (-1)))), (xs, .inr (6, [.ref n, .ref fo, .ref wa, .ref we])), (n, .inl (cI, 36, .inl g_nums))]) (fun (_ : Unit) => [(cI, .int)]) := by
  unfold Kv
  refine g_ofW (cc := cX5_begin) (lv := [(0, .ref xl), (1, .int wb)]) (by decide) rfl (Nat.le_of_ble_eq_true rfl) rfl ?_
  intro p e s m args below meth c A Q hA hQ F hr hnm
  have hts := F.2.2.2.2.1
  have w_0 : (Cond.fieldLink RX5 20 "QuietCut$Lathe" "leftTurn" "[I").before args s = true := hts _ (List.mem_of_getElem? (i := 1) rfl)
  have i_X5 : ∀ w ∈ u_ws RX5 TX5 20, w ∈ wsX5_begin := fun _ h => List.mem_cons_of_mem _ (List.mem_append_left _ (List.mem_append_right _ h))
  have w_1 : (Cond.fieldLink RX5 128 "QuietCut$Lathe" "wear" "I").before args s = true := hts _ (List.mem_of_getElem? (i := 2) rfl)
  have w_2 : (Cond.fieldLink RX5 131 "QuietCut$Lathe" "x" "I").before args s = true := hts _ (List.mem_of_getElem? (i := 3) rfl)
  have w_3 : (Cond.fieldLink RX5 134 "QuietCut$Lathe" "v" "I").before args s = true := hts _ (List.mem_of_getElem? (i := 4) rfl)
  have w_4 : (Cond.fieldLink RX5 137 "QuietCut$Lathe" "time" "I").before args s = true := hts _ (List.mem_of_getElem? (i := 5) rfl)
  have w_5 : (Cond.fieldLink RX5 140 "QuietCut$Lathe" "out" "I").before args s = true := hts _ (List.mem_of_getElem? (i := 6) rfl)
  have w_6 : (Cond.fieldLink RX5 143 "QuietCut$Lathe" "farthest" "I").before args s = true := hts _ (List.mem_of_getElem? (i := 7) rfl)
  have w_7 : (Cond.fieldLink RX5 83 "QuietCut$Lathe" "begun" "I").before args s = true := hts _ (List.mem_of_getElem? (i := 8) rfl)
  refine g_aload_n F 0 dX5_begin_0 rfl rfl ?_
  refine g_callVv (k := 0) (n := 0) (b := xl) (As := []) (st := []) (wc := [(xl, .inr (4, [.ref xs, .int l_ring, .int l_speed, .int l_feed, .int l_turns, .ref la_t, .int 0, .int l_teethMany, .ref la_h, .ref la_u, .ref la_o, .ref la_x, .int l_wear, .int l_x, .int l_v, .int l_wave, .int l_time, .int l_out, .int l_farthest, .int l_begun])), (la_t, .inl (cI, 4, .inl ft)), (xs, .inr (6, [.ref n, .ref fo, .ref wa, .ref we])), (n, .inl (cI, 36, .inl g_nums))]) (wr := [(la_u, .inl (cI, 16, .inl fu))]) F [0, 1, 3, 4] [2] [0] rfl rfl (by decide) rfl (by decide) (by decide) rfl (fun sz => K_X5_mountTeeth0 l D xl xs la_t la_h la_u la_o la_x n fo wa we cI l_ring l_speed l_feed l_turns l_teethMany l_wear l_x l_v l_wave l_time l_out l_farthest l_begun ft  sz) (cwV 0 hts gX5_begin_X5_mountTeeth rfl rfl rfl (by decide +kernel) ⟨Nat.le_of_ble_eq_true rfl, Nat.le_of_ble_eq_true rfl⟩) rfl 0 rfl rfl (Nat.le_of_ble_eq_true rfl) ⟨Nat.le_of_ble_eq_true rfl, Nat.le_of_ble_eq_true rfl⟩ dX5_begin_1 (fun _ hw_2 => ?_)
  show gG p l e (gR 2 0 0 53) s m args below meth c D A 2 Q 0 0 [(la_u, .inl (cI, 16, .inl fu)), (xl, .inr (4, [.ref xs, .int l_ring, .int l_speed, .int l_feed, .int l_turns, .ref la_t, .int 0, .int 1, .ref la_h, .ref la_u, .ref la_o, .ref la_x, .int l_wear, .int l_x, .int l_v, .int l_wave, .int l_time, .int l_out, .int l_farthest, .int l_begun])), (la_t, .inl (cI, 4, .inl (upd ft 0 0))), (xs, .inr (6, [.ref n, .ref fo, .ref wa, .ref we])), (n, .inl (cI, 36, .inl g_nums))] [(cI, .int)] [(0, .ref xl), (1, .int wb)] 4 []
  refine g_aload_n F 0 dX5_begin_4 rfl rfl ?_
  refine g_get (C := RX5) (T := TX5) (N := 20) (v := .ref la_u) F i_X5 1 rfl rfl 9 (by decide) w_0 rfl rfl dX5_begin_5 ?_
  refine g_iconst F (-1) dX5_begin_8 (by decide) ?_
  refine g_callSv (k := 0) (n := 0) (As := [.ref la_u, .int (-1)]) (st := []) (wc := [(la_u, .inl (cI, 16, .inl fu))]) (wr := [(xl, .inr (4, [.ref xs, .int l_ring, .int l_speed, .int l_feed, .int l_turns, .ref la_t, .int 0, .int 1, .ref la_h, .ref la_u, .ref la_o, .ref la_x, .int l_wear, .int l_x, .int l_v, .int l_wave, .int l_time, .int l_out, .int l_farthest, .int l_begun])), (la_t, .inl (cI, 4, .inl (upd ft 0 0))), (xs, .inr (6, [.ref n, .ref fo, .ref wa, .ref we])), (n, .inl (cI, 36, .inl g_nums))]) F [0] [1, 2, 3, 4] [0] rfl rfl (by decide) rfl (by decide) (by decide) rfl (fun sz => K_J7_fill_53178 l D la_u 16 fu (-1) cI (by first | assumption | decide | omega) sz) (va_cwS 2 hts gX5_begin_J7_fill_53178 rfl rfl rfl (by decide +kernel) ⟨Nat.le_of_ble_eq_true rfl, Nat.le_of_ble_eq_true rfl⟩) rfl (Nat.le_of_ble_eq_true rfl) ⟨Nat.le_of_ble_eq_true rfl, Nat.le_of_ble_eq_true rfl⟩ dX5_begin_9 (fun _ hw_7 => ?_)
  show gG p l e (gR 2 0 0 53) s m args below meth c D A 2 Q 0 0 [(xl, .inr (4, [.ref xs, .int l_ring, .int l_speed, .int l_feed, .int l_turns, .ref la_t, .int 0, .int 1, .ref la_h, .ref la_u, .ref la_o, .ref la_x, .int l_wear, .int l_x, .int l_v, .int l_wave, .int l_time, .int l_out, .int l_farthest, .int l_begun])), (la_t, .inl (cI, 4, .inl (upd ft 0 0))), (xs, .inr (6, [.ref n, .ref fo, .ref wa, .ref we])), (n, .inl (cI, 36, .inl g_nums)), (la_u, .inl (cI, 16, .inl (fun _ => (-1))))] [(cI, .int)] [(0, .ref xl), (1, .int wb)] 12 []
  refine g_aload_n F 0 dX5_begin_12 rfl rfl ?_
  refine g_iload_n F 1 dX5_begin_13 rfl rfl ?_
  refine g_put (C := RX5) (T := TX5) (N := 20) (ty := .int) (v := .int wb) F i_X5 0 rfl rfl 12 (by decide) w_1 rfl tyX5 tyX5_ok nmX5 rfl (by decide +kernel) rfl rfl (Nat.le_of_ble_eq_true rfl) [(xl, .inr (4, [.ref xs, .int l_ring, .int l_speed, .int l_feed, .int l_turns, .ref la_t, .int 0, .int 1, .ref la_h, .ref la_u, .ref la_o, .ref la_x, .int wb, .int l_x, .int l_v, .int l_wave, .int l_time, .int l_out, .int l_farthest, .int l_begun])), (la_t, .inl (cI, 4, .inl (upd ft 0 0))), (xs, .inr (6, [.ref n, .ref fo, .ref wa, .ref we])), (n, .inl (cI, 36, .inl g_nums)), (la_u, .inl (cI, 16, .inl (fun _ => (-1))))] rfl dX5_begin_14 ?_
  refine g_aload_n F 0 dX5_begin_17 rfl rfl ?_
  refine g_iconst F 0 dX5_begin_18 (by decide) ?_
  refine g_put (C := RX5) (T := TX5) (N := 20) (ty := .int) (v := .int 0) F i_X5 0 rfl rfl 13 (by decide) w_2 rfl tyX5 tyX5_ok nmX5 rfl (by decide +kernel) rfl rfl (Nat.le_of_ble_eq_true rfl) [(xl, .inr (4, [.ref xs, .int l_ring, .int l_speed, .int l_feed, .int l_turns, .ref la_t, .int 0, .int 1, .ref la_h, .ref la_u, .ref la_o, .ref la_x, .int wb, .int 0, .int l_v, .int l_wave, .int l_time, .int l_out, .int l_farthest, .int l_begun])), (la_t, .inl (cI, 4, .inl (upd ft 0 0))), (xs, .inr (6, [.ref n, .ref fo, .ref wa, .ref we])), (n, .inl (cI, 36, .inl g_nums)), (la_u, .inl (cI, 16, .inl (fun _ => (-1))))] rfl dX5_begin_19 ?_
  refine g_aload_n F 0 dX5_begin_22 rfl rfl ?_
  refine g_iconst F 0 dX5_begin_23 (by decide) ?_
  refine g_put (C := RX5) (T := TX5) (N := 20) (ty := .int) (v := .int 0) F i_X5 0 rfl rfl 14 (by decide) w_3 rfl tyX5 tyX5_ok nmX5 rfl (by decide +kernel) rfl rfl (Nat.le_of_ble_eq_true rfl) [(xl, .inr (4, [.ref xs, .int l_ring, .int l_speed, .int l_feed, .int l_turns, .ref la_t, .int 0, .int 1, .ref la_h, .ref la_u, .ref la_o, .ref la_x, .int wb, .int 0, .int 0, .int l_wave, .int l_time, .int l_out, .int l_farthest, .int l_begun])), (la_t, .inl (cI, 4, .inl (upd ft 0 0))), (xs, .inr (6, [.ref n, .ref fo, .ref wa, .ref we])), (n, .inl (cI, 36, .inl g_nums)), (la_u, .inl (cI, 16, .inl (fun _ => (-1))))] rfl dX5_begin_24 ?_
  refine g_aload_n F 0 dX5_begin_27 rfl rfl ?_
  refine g_iconst F 0 dX5_begin_28 (by decide) ?_
  refine g_put (C := RX5) (T := TX5) (N := 20) (ty := .int) (v := .int 0) F i_X5 0 rfl rfl 16 (by decide) w_4 rfl tyX5 tyX5_ok nmX5 rfl (by decide +kernel) rfl rfl (Nat.le_of_ble_eq_true rfl) [(xl, .inr (4, [.ref xs, .int l_ring, .int l_speed, .int l_feed, .int l_turns, .ref la_t, .int 0, .int 1, .ref la_h, .ref la_u, .ref la_o, .ref la_x, .int wb, .int 0, .int 0, .int l_wave, .int 0, .int l_out, .int l_farthest, .int l_begun])), (la_t, .inl (cI, 4, .inl (upd ft 0 0))), (xs, .inr (6, [.ref n, .ref fo, .ref wa, .ref we])), (n, .inl (cI, 36, .inl g_nums)), (la_u, .inl (cI, 16, .inl (fun _ => (-1))))] rfl dX5_begin_29 ?_
  refine g_aload_n F 0 dX5_begin_32 rfl rfl ?_
  refine g_iconst F 0 dX5_begin_33 (by decide) ?_
  refine g_put (C := RX5) (T := TX5) (N := 20) (ty := .int) (v := .int 0) F i_X5 0 rfl rfl 17 (by decide) w_5 rfl tyX5 tyX5_ok nmX5 rfl (by decide +kernel) rfl rfl (Nat.le_of_ble_eq_true rfl) [(xl, .inr (4, [.ref xs, .int l_ring, .int l_speed, .int l_feed, .int l_turns, .ref la_t, .int 0, .int 1, .ref la_h, .ref la_u, .ref la_o, .ref la_x, .int wb, .int 0, .int 0, .int l_wave, .int 0, .int 0, .int l_farthest, .int l_begun])), (la_t, .inl (cI, 4, .inl (upd ft 0 0))), (xs, .inr (6, [.ref n, .ref fo, .ref wa, .ref we])), (n, .inl (cI, 36, .inl g_nums)), (la_u, .inl (cI, 16, .inl (fun _ => (-1))))] rfl dX5_begin_34 ?_
  refine g_aload_n F 0 dX5_begin_37 rfl rfl ?_
  refine g_iconst F 0 dX5_begin_38 (by decide) ?_
  refine g_put (C := RX5) (T := TX5) (N := 20) (ty := .int) (v := .int 0) F i_X5 0 rfl rfl 18 (by decide) w_6 rfl tyX5 tyX5_ok nmX5 rfl (by decide +kernel) rfl rfl (Nat.le_of_ble_eq_true rfl) [(xl, .inr (4, [.ref xs, .int l_ring, .int l_speed, .int l_feed, .int l_turns, .ref la_t, .int 0, .int 1, .ref la_h, .ref la_u, .ref la_o, .ref la_x, .int wb, .int 0, .int 0, .int l_wave, .int 0, .int 0, .int 0, .int l_begun])), (la_t, .inl (cI, 4, .inl (upd ft 0 0))), (xs, .inr (6, [.ref n, .ref fo, .ref wa, .ref we])), (n, .inl (cI, 36, .inl g_nums)), (la_u, .inl (cI, 16, .inl (fun _ => (-1))))] rfl dX5_begin_39 ?_
  refine g_aload_n F 0 dX5_begin_42 rfl rfl ?_
  refine g_iconst F 0 dX5_begin_43 (by decide) ?_
  refine g_put (C := RX5) (T := TX5) (N := 20) (ty := .int) (v := .int 0) F i_X5 0 rfl rfl 19 (by decide) w_7 rfl tyX5 tyX5_ok nmX5 rfl (by decide +kernel) rfl rfl (Nat.le_of_ble_eq_true rfl) [(xl, .inr (4, [.ref xs, .int l_ring, .int l_speed, .int l_feed, .int l_turns, .ref la_t, .int 0, .int 1, .ref la_h, .ref la_u, .ref la_o, .ref la_x, .int wb, .int 0, .int 0, .int l_wave, .int 0, .int 0, .int 0, .int 0])), (la_t, .inl (cI, 4, .inl (upd ft 0 0))), (xs, .inr (6, [.ref n, .ref fo, .ref wa, .ref we])), (n, .inl (cI, 36, .inl g_nums)), (la_u, .inl (cI, 16, .inl (fun _ => (-1))))] rfl dX5_begin_44 ?_
  exact g_vret F hA hQ hr () (trivial) [0, 1, 4, 2, 3] [0] rfl (by decide) rfl rfl dX5_begin_47

theorem fm_all : ∀ a : Nat, a < 24 → ((0 : Int32) ≤ nI a ^^^ 8 ∧ nI a - nI a / 8 * 8 = nI (a % 8)) := by decide

theorem dJ9_floorMod_7cf53_0 : decode cJ9_floorMod_7cf53 0 = .ok (.iload_n 0, 1) := by decide +kernel
theorem dJ9_floorMod_7cf53_1 : decode cJ9_floorMod_7cf53 1 = .ok (.iload_n 1, 1) := by decide +kernel
theorem dJ9_floorMod_7cf53_2 : decode cJ9_floorMod_7cf53 2 = .ok (.irem, 1) := by decide +kernel
theorem dJ9_floorMod_7cf53_3 : decode cJ9_floorMod_7cf53 3 = .ok (.istore_n 2, 1) := by decide +kernel
theorem dJ9_floorMod_7cf53_4 : decode cJ9_floorMod_7cf53 4 = .ok (.iload_n 0, 1) := by decide +kernel
theorem dJ9_floorMod_7cf53_5 : decode cJ9_floorMod_7cf53 5 = .ok (.iload_n 1, 1) := by decide +kernel
theorem dJ9_floorMod_7cf53_6 : decode cJ9_floorMod_7cf53 6 = .ok (.ixor, 1) := by decide +kernel
theorem dJ9_floorMod_7cf53_7 : decode cJ9_floorMod_7cf53 7 = .ok (.ifCond .ge 11, 3) := by decide +kernel
theorem dJ9_floorMod_7cf53_10 : decode cJ9_floorMod_7cf53 10 = .ok (.iload_n 2, 1) := by decide +kernel
theorem dJ9_floorMod_7cf53_11 : decode cJ9_floorMod_7cf53 11 = .ok (.ifCond .eq 7, 3) := by decide +kernel
theorem dJ9_floorMod_7cf53_14 : decode cJ9_floorMod_7cf53 14 = .ok (.iload_n 2, 1) := by decide +kernel
theorem dJ9_floorMod_7cf53_15 : decode cJ9_floorMod_7cf53 15 = .ok (.iload_n 1, 1) := by decide +kernel
theorem dJ9_floorMod_7cf53_16 : decode cJ9_floorMod_7cf53 16 = .ok (.iadd, 1) := by decide +kernel
theorem dJ9_floorMod_7cf53_17 : decode cJ9_floorMod_7cf53 17 = .ok (.ireturn, 1) := by decide +kernel
theorem dJ9_floorMod_7cf53_18 : decode cJ9_floorMod_7cf53 18 = .ok (.iload_n 2, 1) := by decide +kernel
theorem dJ9_floorMod_7cf53_19 : decode cJ9_floorMod_7cf53 19 = .ok (.ireturn, 1) := by decide +kernel
set_option maxHeartbeats 4000000 in
set_option maxRecDepth 100000 in
theorem K_J9_floorMod_7cf53 (l : Launch) (D : va_G) (x_ : Int32) (ka : Nat) (hx_ : x_ = nI ka) (hka : ka < 24) (sz : Nat) : Ki l yJ9_floorMod_7cf53 wsJ9_floorMod_7cf53 1 30 0 0 D [.int x_, .int 8] [] [] sz (fun (r : Int32) (_ : Unit) => r = (nI (ka % 8))) (fun (_ : Unit) => []) (fun (_ : Unit) => []) := by
  unfold Ki
  refine g_ofWF (cc := cJ9_floorMod_7cf53) (lv := [(0, .int x_), (1, .int 8)]) (by decide +kernel) rfl (Nat.le_of_ble_eq_true rfl) rfl ?_
  intro p e s m args below meth c A Q hA hQ F hr hnm
  have hts := F.2.2.2.2.1
  refine g_iload_n F 0 dJ9_floorMod_7cf53_0 rfl rfl ?_
  refine g_iload_n F 1 dJ9_floorMod_7cf53_1 rfl rfl ?_
  refine g_irem F dJ9_floorMod_7cf53_2 (by decide) ?_
  refine g_fold (nI (ka % 8)) (by rw [hx_]; exact (fm_all ka hka).2) ?_
  refine g_istore_n F [(2, .int (nI (ka % 8))), (0, .int x_), (1, .int 8)] dJ9_floorMod_7cf53_3 rfl (by decide) rfl ?_
  refine g_iload_n F 1 dJ9_floorMod_7cf53_4 rfl rfl ?_
  refine g_iload_n F 2 dJ9_floorMod_7cf53_5 rfl rfl ?_
  refine g_ixor F dJ9_floorMod_7cf53_6 ?_
  refine g_if_ge F 18 dJ9_floorMod_7cf53_7 (by decide) (fun c_7 => ?_) (fun h9 => absurd (by rw [hx_]; exact (fm_all ka hka).1) h9) 
  refine g_iload_n F 0 dJ9_floorMod_7cf53_18 rfl rfl ?_
  exact g_iret F hA hQ hr () (rfl) [] [] rfl (by decide) rfl rfl dJ9_floorMod_7cf53_19

theorem dX7_swayAt_0 : decode cX7_swayAt 0 = .ok (.iload_n 1, 1) := by decide +kernel
theorem dX7_swayAt_1 : decode cX7_swayAt 1 = .ok (.ifCond .lt 21, 3) := by decide +kernel
theorem dX7_swayAt_4 : decode cX7_swayAt 4 = .ok (.iload_n 1, 1) := by decide +kernel
theorem dX7_swayAt_5 : decode cX7_swayAt 5 = .ok (.bipush 6, 2) := by decide +kernel
theorem dX7_swayAt_7 : decode cX7_swayAt 7 = .ok (.if_icmp .ge 15, 3) := by decide +kernel
theorem dX7_swayAt_10 : decode cX7_swayAt 10 = .ok (.aload_n 0, 1) := by decide +kernel
theorem dX7_swayAt_11 : decode cX7_swayAt 11 = .ok (.getfield 11, 3) := by decide +kernel
theorem dX7_swayAt_14 : decode cX7_swayAt 14 = .ok (.bipush 30, 2) := by decide +kernel
theorem dX7_swayAt_16 : decode cX7_swayAt 16 = .ok (.iload_n 1, 1) := by decide +kernel
theorem dX7_swayAt_17 : decode cX7_swayAt 17 = .ok (.iadd, 1) := by decide +kernel
theorem dX7_swayAt_18 : decode cX7_swayAt 18 = .ok (.iaload, 1) := by decide +kernel
theorem dX7_swayAt_19 : decode cX7_swayAt 19 = .ok (.goto 4, 3) := by decide +kernel
theorem dX7_swayAt_22 : decode cX7_swayAt 22 = .ok (.iconst 0, 1) := by decide +kernel
theorem dX7_swayAt_23 : decode cX7_swayAt 23 = .ok (.ireturn, 1) := by decide +kernel
set_option maxHeartbeats 4000000 in
set_option maxRecDepth 100000 in
theorem K_X7_swayAt0 (l : Launch) (D : va_G) (xs : Nat) (n : Nat) (fo : Nat) (wa : Nat) (we : Nat) (cI : ClassId) (sz : Nat) : Ki l yX7_swayAt wsX7_swayAt 1 40 0 0 D [.ref xs, .int 0] [(xs, .inr (6, [.ref n, .ref fo, .ref wa, .ref we])), (n, .inl (cI, 36, .inl g_nums))] [(cI, .int)] sz (fun (r : Int32) (_ : Unit) => r = 0) (fun (_ : Unit) => [(xs, .inr (6, [.ref n, .ref fo, .ref wa, .ref we])), (n, .inl (cI, 36, .inl g_nums))]) (fun (_ : Unit) => [(cI, .int)]) := by
  unfold Ki
  refine g_ofW (cc := cX7_swayAt) (lv := [(0, .ref xs), (1, .int 0)]) (by decide) rfl (Nat.le_of_ble_eq_true rfl) rfl ?_
  intro p e s m args below meth c A Q hA hQ F hr hnm
  have hts := F.2.2.2.2.1
  have w_0 : (Cond.fieldLink RX7 11 "QuietCut$Shop" "numbers" "[I").before args s = true := hts _ (List.mem_of_getElem? (i := 1) rfl)
  have i_X7 : ∀ w ∈ u_ws RX7 TX7 4, w ∈ wsX7_swayAt := fun _ h => List.mem_cons_of_mem _ (List.mem_append_right _ h)
  refine g_iload_n F 1 dX7_swayAt_0 rfl rfl ?_
  refine g_if_lt F 22 dX7_swayAt_1 (by decide) (fun h9 => absurd h9 (by decide)) (fun c_1 => ?_)
  refine g_iload_n F 1 dX7_swayAt_4 rfl rfl ?_
  refine g_bipush F 6 dX7_swayAt_5 (by decide) ?_
  refine g_icmp_ge F 22 dX7_swayAt_7 (by decide) (fun h9 => absurd h9 (by decide)) (fun c_7 => ?_)
  refine g_aload_n F 0 dX7_swayAt_10 rfl rfl ?_
  refine g_get (C := RX7) (T := TX7) (N := 4) (v := .ref n) F i_X7 0 rfl rfl 0 (by decide) w_0 rfl rfl dX7_swayAt_11 ?_
  refine g_bipush F 30 dX7_swayAt_14 (by decide) ?_
  refine g_iload_n F 1 dX7_swayAt_16 rfl rfl ?_
  refine g_iadd F dX7_swayAt_17 ?_
  refine g_fold 30 (by decide) ?_
  refine g_iald F 1 0 rfl rfl (by unfold vp_in; decide) dX7_swayAt_18 ?_
  refine g_fold 0 (by rfl) ?_
  refine g_goto F 23 dX7_swayAt_19 (by decide) ?_
  exact g_iret F hA hQ hr () (rfl) [0, 1] [0] rfl (by decide) rfl rfl dX7_swayAt_23

theorem dX7_swayBehind_0 : decode cX7_swayBehind 0 = .ok (.iload_n 1, 1) := by decide +kernel
theorem dX7_swayBehind_1 : decode cX7_swayBehind 1 = .ok (.iconst 1, 1) := by decide +kernel
theorem dX7_swayBehind_2 : decode cX7_swayBehind 2 = .ok (.iadd, 1) := by decide +kernel
theorem dX7_swayBehind_3 : decode cX7_swayBehind 3 = .ok (.aload_n 0, 1) := by decide +kernel
theorem dX7_swayBehind_4 : decode cX7_swayBehind 4 = .ok (.getfield 11, 3) := by decide +kernel
theorem dX7_swayBehind_7 : decode cX7_swayBehind 7 = .ok (.bipush 11, 2) := by decide +kernel
theorem dX7_swayBehind_9 : decode cX7_swayBehind 9 = .ok (.iaload, 1) := by decide +kernel
theorem dX7_swayBehind_10 : decode cX7_swayBehind 10 = .ok (.if_icmp .ge 9, 3) := by decide +kernel
theorem dX7_swayBehind_13 : decode cX7_swayBehind 13 = .ok (.iload_n 1, 1) := by decide +kernel
theorem dX7_swayBehind_14 : decode cX7_swayBehind 14 = .ok (.iconst 1, 1) := by decide +kernel
theorem dX7_swayBehind_15 : decode cX7_swayBehind 15 = .ok (.iadd, 1) := by decide +kernel
theorem dX7_swayBehind_16 : decode cX7_swayBehind 16 = .ok (.goto 4, 3) := by decide +kernel
theorem dX7_swayBehind_19 : decode cX7_swayBehind 19 = .ok (.iconst 0, 1) := by decide +kernel
theorem dX7_swayBehind_20 : decode cX7_swayBehind 20 = .ok (.ireturn, 1) := by decide +kernel
set_option maxHeartbeats 4000000 in
set_option maxRecDepth 100000 in
theorem K_X7_swayBehind0 (l : Launch) (D : va_G) (xs : Nat) (n : Nat) (fo : Nat) (wa : Nat) (we : Nat) (cI : ClassId) (sz : Nat) : Ki l yX7_swayBehind wsX7_swayBehind 1 40 0 0 D [.ref xs, .int 0] [(xs, .inr (6, [.ref n, .ref fo, .ref wa, .ref we])), (n, .inl (cI, 36, .inl g_nums))] [(cI, .int)] sz (fun (r : Int32) (_ : Unit) => r = 0) (fun (_ : Unit) => [(xs, .inr (6, [.ref n, .ref fo, .ref wa, .ref we])), (n, .inl (cI, 36, .inl g_nums))]) (fun (_ : Unit) => [(cI, .int)]) := by
  unfold Ki
  refine g_ofW (cc := cX7_swayBehind) (lv := [(0, .ref xs), (1, .int 0)]) (by decide) rfl (Nat.le_of_ble_eq_true rfl) rfl ?_
  intro p e s m args below meth c A Q hA hQ F hr hnm
  have hts := F.2.2.2.2.1
  have w_0 : (Cond.fieldLink RX7 11 "QuietCut$Shop" "numbers" "[I").before args s = true := hts _ (List.mem_of_getElem? (i := 1) rfl)
  have i_X7 : ∀ w ∈ u_ws RX7 TX7 4, w ∈ wsX7_swayBehind := fun _ h => List.mem_cons_of_mem _ (List.mem_append_right _ h)
  refine g_iload_n F 1 dX7_swayBehind_0 rfl rfl ?_
  refine g_iconst F 1 dX7_swayBehind_1 (by decide) ?_
  refine g_iadd F dX7_swayBehind_2 ?_
  refine g_fold 1 (by decide) ?_
  refine g_aload_n F 0 dX7_swayBehind_3 rfl rfl ?_
  refine g_get (C := RX7) (T := TX7) (N := 4) (v := .ref n) F i_X7 0 rfl rfl 0 (by decide) w_0 rfl rfl dX7_swayBehind_4 ?_
  refine g_bipush F 11 dX7_swayBehind_7 (by decide) ?_
  refine g_iald F 1 0 rfl rfl (by unfold vp_in; decide) dX7_swayBehind_9 ?_
  refine g_fold 1 (by rfl) ?_
  refine g_icmp_ge F 19 dX7_swayBehind_10 (by decide) (fun c_10 => ?_) (fun h9 => absurd (by decide) h9) 
  refine g_iconst F 0 dX7_swayBehind_19 (by decide) ?_
  exact g_iret F hA hQ hr () (rfl) [0, 1] [0] rfl (by decide) rfl rfl dX7_swayBehind_20

theorem gr_ring {a : Int32} {rr : Nat} (h : a = nI rr) (hr : rr < 3) : ((a * 16) + 0 = nI (16 * rr)) := by
  subst h
  have : ∀ q : Nat, q < 3 → (nI q * 16) + 0 = nI (16 * q) := by decide
  exact this rr hr
theorem gr_up {a : Int32} {rr : Nat} (h : a = nI rr) (hr : rr < 3) (hc : 0 ≤ a + 1 ∧ a + 1 < 3) : (((a + 1) * 16) + 0 = nI (16 * (rr + 1))) ∧ rr + 1 < 3 := by
  subst h
  have : ∀ q : Nat, q < 3 → (0 ≤ nI q + 1 ∧ nI q + 1 < 3) → (((nI q + 1) * 16) + 0 = nI (16 * (q + 1))) ∧ q + 1 < 3 := by decide
  exact this rr hr hc
theorem gr_dn {a : Int32} {rr : Nat} (h : a = nI rr) (hr : rr < 3) (hc : 0 ≤ a - 1 ∧ a - 1 < 3) : (((a - 1) * 16) + 0 = nI (16 * (rr - 1))) ∧ rr - 1 < 3 := by
  subst h
  have : ∀ q : Nat, q < 3 → (0 ≤ nI q - 1 ∧ nI q - 1 < 3) → (((nI q - 1) * 16) + 0 = nI (16 * (q - 1))) ∧ q - 1 < 3 := by decide
  exact this rr hr hc

theorem dX5_gapIn_0 : decode cX5_gapIn 0 = .ok (.aload_n 0, 1) := by decide +kernel
theorem dX5_gapIn_1 : decode cX5_gapIn 1 = .ok (.getfield 29, 3) := by decide +kernel
theorem dX5_gapIn_4 : decode cX5_gapIn 4 = .ok (.getfield 56, 3) := by decide +kernel
theorem dX5_gapIn_7 : decode cX5_gapIn 7 = .ok (.iconst 0, 1) := by decide +kernel
theorem dX5_gapIn_8 : decode cX5_gapIn 8 = .ok (.iaload, 1) := by decide +kernel
theorem dX5_gapIn_9 : decode cX5_gapIn 9 = .ok (.istore_n 3, 1) := by decide +kernel
theorem dX5_gapIn_10 : decode cX5_gapIn 10 = .ok (.aload_n 0, 1) := by decide +kernel
theorem dX5_gapIn_11 : decode cX5_gapIn 11 = .ok (.getfield 29, 3) := by decide +kernel
theorem dX5_gapIn_14 : decode cX5_gapIn 14 = .ok (.aload_n 0, 1) := by decide +kernel
theorem dX5_gapIn_15 : decode cX5_gapIn 15 = .ok (.getfield 33, 3) := by decide +kernel
theorem dX5_gapIn_18 : decode cX5_gapIn 18 = .ok (.iconst 1, 1) := by decide +kernel
theorem dX5_gapIn_19 : decode cX5_gapIn 19 = .ok (.isub, 1) := by decide +kernel
theorem dX5_gapIn_20 : decode cX5_gapIn 20 = .ok (.invokevirtual 46, 3) := by decide +kernel
theorem dX5_gapIn_23 : decode cX5_gapIn 23 = .ok (.istore 4, 2) := by decide +kernel
theorem dX5_gapIn_25 : decode cX5_gapIn 25 = .ok (.aload_n 0, 1) := by decide +kernel
theorem dX5_gapIn_26 : decode cX5_gapIn 26 = .ok (.getfield 29, 3) := by decide +kernel
theorem dX5_gapIn_29 : decode cX5_gapIn 29 = .ok (.aload_n 0, 1) := by decide +kernel
theorem dX5_gapIn_30 : decode cX5_gapIn 30 = .ok (.getfield 33, 3) := by decide +kernel
theorem dX5_gapIn_33 : decode cX5_gapIn 33 = .ok (.iconst 1, 1) := by decide +kernel
theorem dX5_gapIn_34 : decode cX5_gapIn 34 = .ok (.iadd, 1) := by decide +kernel
theorem dX5_gapIn_35 : decode cX5_gapIn 35 = .ok (.invokevirtual 46, 3) := by decide +kernel
theorem dX5_gapIn_38 : decode cX5_gapIn 38 = .ok (.istore 5, 2) := by decide +kernel
theorem dX5_gapIn_40 : decode cX5_gapIn 40 = .ok (.iload 4, 2) := by decide +kernel
theorem dX5_gapIn_42 : decode cX5_gapIn 42 = .ok (.ifCond .eq 21, 3) := by decide +kernel
theorem dX5_gapIn_45 : decode cX5_gapIn 45 = .ok (.aload_n 1, 1) := by decide +kernel
theorem dX5_gapIn_46 : decode cX5_gapIn 46 = .ok (.aload_n 0, 1) := by decide +kernel
theorem dX5_gapIn_47 : decode cX5_gapIn 47 = .ok (.getfield 33, 3) := by decide +kernel
theorem dX5_gapIn_50 : decode cX5_gapIn 50 = .ok (.iconst 1, 1) := by decide +kernel
theorem dX5_gapIn_51 : decode cX5_gapIn 51 = .ok (.isub, 1) := by decide +kernel
theorem dX5_gapIn_52 : decode cX5_gapIn 52 = .ok (.iconst 0, 1) := by decide +kernel
theorem dX5_gapIn_53 : decode cX5_gapIn 53 = .ok (.invokestatic 59, 3) := by decide +kernel
theorem dX5_gapIn_56 : decode cX5_gapIn 56 = .ok (.iload_n 3, 1) := by decide +kernel
theorem dX5_gapIn_57 : decode cX5_gapIn 57 = .ok (.invokestatic 113, 3) := by decide +kernel
theorem dX5_gapIn_60 : decode cX5_gapIn 60 = .ok (.goto 4, 3) := by decide +kernel
theorem dX5_gapIn_63 : decode cX5_gapIn 63 = .ok (.iload_n 2, 1) := by decide +kernel
theorem dX5_gapIn_64 : decode cX5_gapIn 64 = .ok (.istore 6, 2) := by decide +kernel
theorem dX5_gapIn_66 : decode cX5_gapIn 66 = .ok (.iload 5, 2) := by decide +kernel
theorem dX5_gapIn_68 : decode cX5_gapIn 68 = .ok (.ifCond .eq 21, 3) := by decide +kernel
theorem dX5_gapIn_71 : decode cX5_gapIn 71 = .ok (.aload_n 1, 1) := by decide +kernel
theorem dX5_gapIn_72 : decode cX5_gapIn 72 = .ok (.aload_n 0, 1) := by decide +kernel
theorem dX5_gapIn_73 : decode cX5_gapIn 73 = .ok (.getfield 33, 3) := by decide +kernel
theorem dX5_gapIn_76 : decode cX5_gapIn 76 = .ok (.iconst 1, 1) := by decide +kernel
theorem dX5_gapIn_77 : decode cX5_gapIn 77 = .ok (.iadd, 1) := by decide +kernel
theorem dX5_gapIn_78 : decode cX5_gapIn 78 = .ok (.iconst 0, 1) := by decide +kernel
theorem dX5_gapIn_79 : decode cX5_gapIn 79 = .ok (.invokestatic 59, 3) := by decide +kernel
theorem dX5_gapIn_82 : decode cX5_gapIn 82 = .ok (.iload_n 3, 1) := by decide +kernel
theorem dX5_gapIn_83 : decode cX5_gapIn 83 = .ok (.invokestatic 113, 3) := by decide +kernel
theorem dX5_gapIn_86 : decode cX5_gapIn 86 = .ok (.goto 4, 3) := by decide +kernel
theorem dX5_gapIn_89 : decode cX5_gapIn 89 = .ok (.iload_n 2, 1) := by decide +kernel
theorem dX5_gapIn_90 : decode cX5_gapIn 90 = .ok (.istore 7, 2) := by decide +kernel
theorem dX5_gapIn_92 : decode cX5_gapIn 92 = .ok (.iload 4, 2) := by decide +kernel
theorem dX5_gapIn_94 : decode cX5_gapIn 94 = .ok (.ifCond .eq 16, 3) := by decide +kernel
theorem dX5_gapIn_97 : decode cX5_gapIn 97 = .ok (.iload 5, 2) := by decide +kernel
theorem dX5_gapIn_99 : decode cX5_gapIn 99 = .ok (.ifCond .eq 11, 3) := by decide +kernel
theorem dX5_gapIn_102 : decode cX5_gapIn 102 = .ok (.iload 6, 2) := by decide +kernel
theorem dX5_gapIn_104 : decode cX5_gapIn 104 = .ok (.iload 7, 2) := by decide +kernel
theorem dX5_gapIn_106 : decode cX5_gapIn 106 = .ok (.invokestatic 159, 3) := by decide +kernel
theorem dX5_gapIn_109 : decode cX5_gapIn 109 = .ok (.ireturn, 1) := by decide +kernel
theorem dX5_gapIn_110 : decode cX5_gapIn 110 = .ok (.iload 4, 2) := by decide +kernel
theorem dX5_gapIn_112 : decode cX5_gapIn 112 = .ok (.ifCond .eq 8, 3) := by decide +kernel
theorem dX5_gapIn_115 : decode cX5_gapIn 115 = .ok (.iload 6, 2) := by decide +kernel
theorem dX5_gapIn_117 : decode cX5_gapIn 117 = .ok (.goto 5, 3) := by decide +kernel
theorem dX5_gapIn_120 : decode cX5_gapIn 120 = .ok (.iload 7, 2) := by decide +kernel
theorem dX5_gapIn_122 : decode cX5_gapIn 122 = .ok (.ireturn, 1) := by decide +kernel
set_option maxRecDepth 20000 in
theorem ggX5_gapIn_X5_least : GoodIn wsX5_gapIn wsX5_least := goodIn_r _ [21, 22, 4, 5, 6, 7] rfl (by decide +kernel)
set_option maxRecDepth 20000 in
theorem gX5_gapIn_X5_least : GoodIn wsX5_gapIn (va_wsS RX5 113 yX5_least wsX5_least) := goodIn_app (goodIn_of _ (by decide +kernel)) ggX5_gapIn_X5_least
set_option maxRecDepth 20000 in
theorem ggX5_gapIn_X6_placeOf : GoodIn wsX5_gapIn wsX6_placeOf := goodIn_r _ [17] rfl (by decide +kernel)
set_option maxRecDepth 20000 in
theorem gX5_gapIn_X6_placeOf : GoodIn wsX5_gapIn (va_wsS RX5 59 yX6_placeOf wsX6_placeOf) := goodIn_app (goodIn_of _ (by decide +kernel)) ggX5_gapIn_X6_placeOf
set_option maxRecDepth 20000 in
theorem ggX5_gapIn_X7_hasRing : GoodIn wsX5_gapIn wsX7_hasRing := goodIn_r _ [12, 13, 43, 44, 45, 46] rfl (by decide +kernel)
set_option maxRecDepth 20000 in
theorem gX5_gapIn_X7_hasRing : GoodIn wsX5_gapIn (wsV RX5 46 RX7 yX7_hasRing wsX7_hasRing) := goodIn_app (goodIn_of _ (by decide +kernel)) ggX5_gapIn_X7_hasRing
set_option maxHeartbeats 4000000 in
set_option maxRecDepth 100000 in
theorem K_X5_gapIn (l : Launch) (D : va_G) (xl : Nat) (xs : Nat) (la_t : Nat) (la_h : Nat) (la_u : Nat) (la_o : Nat) (la_x : Nat) (n : Nat) (fo : Nat) (wa : Nat) (we : Nat) (cI : ClassId) (l_ring : Int32) (l_speed : Int32) (l_feed : Int32) (l_turns : Int32) (l_teethSet : Int32) (l_teethMany : Int32) (l_wear : Int32) (l_x : Int32) (l_v : Int32) (l_wave : Int32) (l_time : Int32) (l_out : Int32) (l_farthest : Int32) (l_begun : Int32) (fr_ : Nat) (rr : Nat) (ff : Nat → Int32) (lv_ : Int32) (hrr : l_ring = nI rr) (hr3 : rr < 3) (hff : ∀ j, j < 96 → ff j < 1000000) (sz : Nat) : Ki l yX5_gapIn wsX5_gapIn 2 64 0 0 D [.ref xl, .ref fr_, .int lv_] [(xl, .inr (4, [.ref xs, .int l_ring, .int l_speed, .int l_feed, .int l_turns, .ref la_t, .int l_teethSet, .int l_teethMany, .ref la_h, .ref la_u, .ref la_o, .ref la_x, .int l_wear, .int l_x, .int l_v, .int l_wave, .int l_time, .int l_out, .int l_farthest, .int l_begun])), (xs, .inr (6, [.ref n, .ref fo, .ref wa, .ref we])), (n, .inl (cI, 36, .inl g_nums)), (fr_, .inl (cI, 96, .inl ff))] [(cI, .int)] sz (fun (r : Int32) (_ : Unit) => True) (fun (_ : Unit) => [(xl, .inr (4, [.ref xs, .int l_ring, .int l_speed, .int l_feed, .int l_turns, .ref la_t, .int l_teethSet, .int l_teethMany, .ref la_h, .ref la_u, .ref la_o, .ref la_x, .int l_wear, .int l_x, .int l_v, .int l_wave, .int l_time, .int l_out, .int l_farthest, .int l_begun])), (xs, .inr (6, [.ref n, .ref fo, .ref wa, .ref we])), (n, .inl (cI, 36, .inl g_nums)), (fr_, .inl (cI, 96, .inl ff))]) (fun (_ : Unit) => [(cI, .int)]) := by
  unfold Ki
  refine g_ofW (cc := cX5_gapIn) (lv := [(0, .ref xl), (1, .ref fr_), (2, .int lv_)]) (by decide) rfl (Nat.le_of_ble_eq_true rfl) rfl ?_
  intro p e s m args below meth c A Q hA hQ F hr hnm
  have hts := F.2.2.2.2.1
  have w_0 : (Cond.fieldLink RX5 29 "QuietCut$Lathe" "shop" "LQuietCut$Shop;").before args s = true := hts _ (List.mem_of_getElem? (i := 1) rfl)
  have i_X5 : ∀ w ∈ u_ws RX5 TX5 20, w ∈ wsX5_gapIn := fun _ h => List.mem_cons_of_mem _ (List.mem_append_left _ (List.mem_append_right _ h))
  have w_1 : (Cond.fieldLink RX5 56 "QuietCut$Shop" "numbers" "[I").before args s = true := hts _ (List.mem_of_getElem? (i := 2) rfl)
  have i_X7 : ∀ w ∈ u_ws RX7 TX7 4, w ∈ wsX5_gapIn := fun _ h => List.mem_cons_of_mem _ (List.mem_append_right _ h)
  have w_2 : (Cond.fieldLink RX5 33 "QuietCut$Lathe" "ring" "I").before args s = true := hts _ (List.mem_of_getElem? (i := 3) rfl)
  have w_3 : (Cond.methodLink RX5 159 Lib.Math.min.name).before args s = true := hts _ (List.mem_of_getElem? (i := 4) rfl)
  have w_4 : (Cond.static Lib.Math.min.name).before args s = true := hts _ (List.mem_of_getElem? (i := 5) rfl)
  have w_5 : (Cond.initialized "java/lang/Math").before args s = true := hts _ (List.mem_of_getElem? (i := 6) rfl)
  have w_6 : (Cond.code Lib.Math.min.name Lib.Math.min.code 2 (some .int)).before args s = true := hts _ (List.mem_of_getElem? (i := 7) rfl)
  refine g_aload_n F 0 dX5_gapIn_0 rfl rfl ?_
  refine g_get (C := RX5) (T := TX5) (N := 20) (v := .ref xs) F i_X5 0 rfl rfl 0 (by decide) w_0 rfl rfl dX5_gapIn_1 ?_
  refine g_get (C := RX7) (T := TX7) (N := 4) (v := .ref n) F i_X7 1 rfl rfl 0 (by decide) w_1 rfl rfl dX5_gapIn_4 ?_
  refine g_iconst F 0 dX5_gapIn_7 (by decide) ?_
  refine g_iald F 2 0 rfl rfl (by unfold vp_in; decide) dX5_gapIn_8 ?_
  refine g_fold 8 (by rfl) ?_
  refine g_istore_n F [(3, .int 8), (0, .ref xl), (1, .ref fr_), (2, .int lv_)] dX5_gapIn_9 rfl (by decide) rfl ?_
  refine g_aload_n F 1 dX5_gapIn_10 rfl rfl ?_
  refine g_get (C := RX5) (T := TX5) (N := 20) (v := .ref xs) F i_X5 0 rfl rfl 0 (by decide) w_0 rfl rfl dX5_gapIn_11 ?_
  refine g_aload_n F 1 dX5_gapIn_14 rfl rfl ?_
  refine g_get (C := RX5) (T := TX5) (N := 20) (v := .int l_ring) F i_X5 0 rfl rfl 1 (by decide) w_2 rfl rfl dX5_gapIn_15 ?_
  refine g_iconst F 1 dX5_gapIn_18 (by decide) ?_
  refine g_isub F dX5_gapIn_19 ?_
  refine g_callVi (k := 0) (n := 0) (b := xs) (As := [.int (l_ring - 1)]) (st := []) (wc := [(xs, .inr (6, [.ref n, .ref fo, .ref wa, .ref we])), (n, .inl (cI, 36, .inl g_nums))]) (wr := [(xl, .inr (4, [.ref xs, .int l_ring, .int l_speed, .int l_feed, .int l_turns, .ref la_t, .int l_teethSet, .int l_teethMany, .ref la_h, .ref la_u, .ref la_o, .ref la_x, .int l_wear, .int l_x, .int l_v, .int l_wave, .int l_time, .int l_out, .int l_farthest, .int l_begun])), (fr_, .inl (cI, 96, .inl ff))]) F [1, 2] [0, 3] [0] rfl rfl (by decide) rfl (by decide) (by decide) rfl (fun sz => K_X7_hasRing l D xs n fo wa we cI (l_ring - 1)  sz) (cwV 1 hts gX5_gapIn_X7_hasRing rfl rfl rfl (by decide +kernel) ⟨Nat.le_of_ble_eq_true rfl, Nat.le_of_ble_eq_true rfl⟩) rfl 0 rfl rfl (Nat.le_of_ble_eq_true rfl) ⟨Nat.le_of_ble_eq_true rfl, Nat.le_of_ble_eq_true rfl⟩ dX5_gapIn_20 (fun r_1 _ hw_2 => ?_)
  have hw_2 : r_1 = (if 0 ≤ (l_ring - 1) ∧ (l_ring - 1) < 3 then 1 else 0) := hw_2
  have e_r_1 := hw_2
  show gG p l e (gR 2 0 0 64) s m args below meth c D A 8 Q 0 0 [(xl, .inr (4, [.ref xs, .int l_ring, .int l_speed, .int l_feed, .int l_turns, .ref la_t, .int l_teethSet, .int l_teethMany, .ref la_h, .ref la_u, .ref la_o, .ref la_x, .int l_wear, .int l_x, .int l_v, .int l_wave, .int l_time, .int l_out, .int l_farthest, .int l_begun])), (fr_, .inl (cI, 96, .inl ff)), (xs, .inr (6, [.ref n, .ref fo, .ref wa, .ref we])), (n, .inl (cI, 36, .inl g_nums))] [(cI, .int)] [(3, .int 8), (0, .ref xl), (1, .ref fr_), (2, .int lv_)] 23 [.int r_1]
  refine g_fold (if 0 ≤ (l_ring - 1) ∧ (l_ring - 1) < 3 then 1 else 0) e_r_1 ?_
  refine g_istore F [(4, .int (if 0 ≤ (l_ring - 1) ∧ (l_ring - 1) < 3 then 1 else 0)), (3, .int 8), (0, .ref xl), (1, .ref fr_), (2, .int lv_)] dX5_gapIn_23 (by decide) rfl ?_
  refine g_aload_n F 2 dX5_gapIn_25 rfl rfl ?_
  refine g_get (C := RX5) (T := TX5) (N := 20) (v := .ref xs) F i_X5 0 rfl rfl 0 (by decide) w_0 rfl rfl dX5_gapIn_26 ?_
  refine g_aload_n F 2 dX5_gapIn_29 rfl rfl ?_
  refine g_get (C := RX5) (T := TX5) (N := 20) (v := .int l_ring) F i_X5 0 rfl rfl 1 (by decide) w_2 rfl rfl dX5_gapIn_30 ?_
  refine g_iconst F 1 dX5_gapIn_33 (by decide) ?_
  refine g_iadd F dX5_gapIn_34 ?_
  refine g_callVi (k := 0) (n := 0) (b := xs) (As := [.int (l_ring + 1)]) (st := []) (wc := [(xs, .inr (6, [.ref n, .ref fo, .ref wa, .ref we])), (n, .inl (cI, 36, .inl g_nums))]) (wr := [(xl, .inr (4, [.ref xs, .int l_ring, .int l_speed, .int l_feed, .int l_turns, .ref la_t, .int l_teethSet, .int l_teethMany, .ref la_h, .ref la_u, .ref la_o, .ref la_x, .int l_wear, .int l_x, .int l_v, .int l_wave, .int l_time, .int l_out, .int l_farthest, .int l_begun])), (fr_, .inl (cI, 96, .inl ff))]) F [2, 3] [0, 1] [0] rfl rfl (by decide) rfl (by decide) (by decide) rfl (fun sz => K_X7_hasRing l D xs n fo wa we cI (l_ring + 1)  sz) (cwV 1 hts gX5_gapIn_X7_hasRing rfl rfl rfl (by decide +kernel) ⟨Nat.le_of_ble_eq_true rfl, Nat.le_of_ble_eq_true rfl⟩) rfl 0 rfl rfl (Nat.le_of_ble_eq_true rfl) ⟨Nat.le_of_ble_eq_true rfl, Nat.le_of_ble_eq_true rfl⟩ dX5_gapIn_35 (fun r_6 _ hw_7 => ?_)
  have hw_7 : r_6 = (if 0 ≤ (l_ring + 1) ∧ (l_ring + 1) < 3 then 1 else 0) := hw_7
  have e_r_6 := hw_7
  show gG p l e (gR 2 0 0 64) s m args below meth c D A 8 Q 0 0 [(xl, .inr (4, [.ref xs, .int l_ring, .int l_speed, .int l_feed, .int l_turns, .ref la_t, .int l_teethSet, .int l_teethMany, .ref la_h, .ref la_u, .ref la_o, .ref la_x, .int l_wear, .int l_x, .int l_v, .int l_wave, .int l_time, .int l_out, .int l_farthest, .int l_begun])), (fr_, .inl (cI, 96, .inl ff)), (xs, .inr (6, [.ref n, .ref fo, .ref wa, .ref we])), (n, .inl (cI, 36, .inl g_nums))] [(cI, .int)] [(4, .int (if 0 ≤ (l_ring - 1) ∧ (l_ring - 1) < 3 then 1 else 0)), (3, .int 8), (0, .ref xl), (1, .ref fr_), (2, .int lv_)] 38 [.int r_6]
  refine g_fold (if 0 ≤ (l_ring + 1) ∧ (l_ring + 1) < 3 then 1 else 0) e_r_6 ?_
  refine g_istore F [(5, .int (if 0 ≤ (l_ring + 1) ∧ (l_ring + 1) < 3 then 1 else 0)), (4, .int (if 0 ≤ (l_ring - 1) ∧ (l_ring - 1) < 3 then 1 else 0)), (3, .int 8), (0, .ref xl), (1, .ref fr_), (2, .int lv_)] dX5_gapIn_38 (by decide) rfl ?_
  refine g_iload F 1 dX5_gapIn_40 rfl ?_
  refine g_if_eq F 63 dX5_gapIn_42 (by decide) (fun c_42 => ?_) (fun c_42 => ?_)
  · have c_42 := gb_0 c_42
    refine g_iload_n F 5 dX5_gapIn_63 rfl rfl ?_
    refine g_istore F [(6, .int lv_), (5, .int (if 0 ≤ (l_ring + 1) ∧ (l_ring + 1) < 3 then 1 else 0)), (4, .int (if 0 ≤ (l_ring - 1) ∧ (l_ring - 1) < 3 then 1 else 0)), (3, .int 8), (0, .ref xl), (1, .ref fr_), (2, .int lv_)] dX5_gapIn_64 (by decide) rfl ?_
    refine g_iload F 1 dX5_gapIn_66 rfl ?_
    refine g_if_eq F 89 dX5_gapIn_68 (by decide) (fun c_68 => ?_) (fun c_68 => ?_)
    · have c_68 := gb_0 c_68
      refine g_iload_n F 6 dX5_gapIn_89 rfl rfl ?_
      refine g_istore F [(7, .int lv_), (6, .int lv_), (5, .int (if 0 ≤ (l_ring + 1) ∧ (l_ring + 1) < 3 then 1 else 0)), (4, .int (if 0 ≤ (l_ring - 1) ∧ (l_ring - 1) < 3 then 1 else 0)), (3, .int 8), (0, .ref xl), (1, .ref fr_), (2, .int lv_)] dX5_gapIn_90 (by decide) rfl ?_
      refine g_iload F 3 dX5_gapIn_92 rfl ?_
      refine g_if_eq F 110 dX5_gapIn_94 (by decide) (fun c_94 => ?_) (fun c_94 => ?_)
      · have c_94 := gb_0 c_94
        refine g_iload F 3 dX5_gapIn_110 rfl ?_
        refine g_if_eq F 120 dX5_gapIn_112 (by decide) (fun c_112 => ?_) (fun c_112 => ?_)
        · have c_112 := gb_0 c_112
          refine g_iload F 0 dX5_gapIn_120 rfl ?_
          exact g_iret F hA hQ hr () (trivial) [0, 2, 3, 1] [0] rfl (by decide) rfl rfl dX5_gapIn_122
        · have c_112 := gb_n0 c_112
          refine g_iload F 1 dX5_gapIn_115 rfl ?_
          refine g_goto F 122 dX5_gapIn_117 (by decide) ?_
          exact g_iret F hA hQ hr () (trivial) [0, 2, 3, 1] [0] rfl (by decide) rfl rfl dX5_gapIn_122
      · have c_94 := gb_n0 c_94
        refine g_iload F 2 dX5_gapIn_97 rfl ?_
        refine g_if_eq F 110 dX5_gapIn_99 (by decide) (fun c_99 => ?_) (fun c_99 => ?_)
        · have c_99 := gb_0 c_99
          refine g_iload F 3 dX5_gapIn_110 rfl ?_
          refine g_if_eq F 120 dX5_gapIn_112 (by decide) (fun c_112 => ?_) (fun c_112 => ?_)
          · have c_112 := gb_0 c_112
            refine g_iload F 0 dX5_gapIn_120 rfl ?_
            exact g_iret F hA hQ hr () (trivial) [0, 2, 3, 1] [0] rfl (by decide) rfl rfl dX5_gapIn_122
          · have c_112 := gb_n0 c_112
            refine g_iload F 1 dX5_gapIn_115 rfl ?_
            refine g_goto F 122 dX5_gapIn_117 (by decide) ?_
            exact g_iret F hA hQ hr () (trivial) [0, 2, 3, 1] [0] rfl (by decide) rfl rfl dX5_gapIn_122
        · have c_99 := gb_n0 c_99
          refine g_iload F 1 dX5_gapIn_102 rfl ?_
          refine g_iload F 0 dX5_gapIn_104 rfl ?_
          refine g_mmin F w_3 w_4 w_5 w_6 (Nat.le_of_ble_eq_true rfl) (Nat.le_of_ble_eq_true rfl) (Nat.le_of_ble_eq_true rfl) (Nat.le_of_ble_eq_true rfl) dX5_gapIn_106 ?_
          exact g_iret F hA hQ hr () (trivial) [0, 2, 3, 1] [0] rfl (by decide) rfl rfl dX5_gapIn_109
    · have c_68 := gb_n0 c_68
      refine g_aload_n F 5 dX5_gapIn_71 rfl rfl ?_
      refine g_aload_n F 4 dX5_gapIn_72 rfl rfl ?_
      refine g_get (C := RX5) (T := TX5) (N := 20) (v := .int l_ring) F i_X5 0 rfl rfl 1 (by decide) w_2 rfl rfl dX5_gapIn_73 ?_
      refine g_iconst F 1 dX5_gapIn_76 (by decide) ?_
      refine g_iadd F dX5_gapIn_77 ?_
      refine g_iconst F 0 dX5_gapIn_78 (by decide) ?_
      refine g_callSi (k := 0) (n := 0) (As := [.int (l_ring + 1), .int 0]) (st := [.ref fr_]) (wc := []) (wr := [(xl, .inr (4, [.ref xs, .int l_ring, .int l_speed, .int l_feed, .int l_turns, .ref la_t, .int l_teethSet, .int l_teethMany, .ref la_h, .ref la_u, .ref la_o, .ref la_x, .int l_wear, .int l_x, .int l_v, .int l_wave, .int l_time, .int l_out, .int l_farthest, .int l_begun])), (fr_, .inl (cI, 96, .inl ff)), (xs, .inr (6, [.ref n, .ref fo, .ref wa, .ref we])), (n, .inl (cI, 36, .inl g_nums))]) F [] [0, 1, 2, 3] [] rfl rfl (by decide) rfl (by decide) (by decide) rfl (fun sz => K_X6_placeOf l D (l_ring + 1) 0  sz) (va_cwS 2 hts gX5_gapIn_X6_placeOf rfl rfl rfl (by decide +kernel) ⟨Nat.le_of_ble_eq_true rfl, Nat.le_of_ble_eq_true rfl⟩) rfl (Nat.le_of_ble_eq_true rfl) ⟨Nat.le_of_ble_eq_true rfl, Nat.le_of_ble_eq_true rfl⟩ dX5_gapIn_79 (fun r_11 _ hw_12 => ?_)
      have hw_12 : r_11 = (((l_ring + 1) * 16) + (0 : Int32)) := hw_12
      have e_r_11 := hw_12
      show gG p l e (gR 2 0 0 64) s m args below meth c D A 8 Q 0 0 [(xl, .inr (4, [.ref xs, .int l_ring, .int l_speed, .int l_feed, .int l_turns, .ref la_t, .int l_teethSet, .int l_teethMany, .ref la_h, .ref la_u, .ref la_o, .ref la_x, .int l_wear, .int l_x, .int l_v, .int l_wave, .int l_time, .int l_out, .int l_farthest, .int l_begun])), (fr_, .inl (cI, 96, .inl ff)), (xs, .inr (6, [.ref n, .ref fo, .ref wa, .ref we])), (n, .inl (cI, 36, .inl g_nums))] [(cI, .int)] [(6, .int lv_), (5, .int (if 0 ≤ (l_ring + 1) ∧ (l_ring + 1) < 3 then 1 else 0)), (4, .int (if 0 ≤ (l_ring - 1) ∧ (l_ring - 1) < 3 then 1 else 0)), (3, .int 8), (0, .ref xl), (1, .ref fr_), (2, .int lv_)] 82 [.int r_11, .ref fr_]
      refine g_fold (((l_ring + 1) * 16) + (0 : Int32)) e_r_11 ?_
      refine g_fold (nI (16 * (rr + 1))) ((gr_up hrr hr3 c_68).1) ?_
      refine g_iload_n F 3 dX5_gapIn_82 rfl rfl ?_
      refine g_callSi (k := 0) (n := 0) (As := [.ref fr_, .int (nI (16 * (rr + 1))), .int 8]) (st := []) (wc := [(fr_, .inl (cI, 96, .inl ff))]) (wr := [(xl, .inr (4, [.ref xs, .int l_ring, .int l_speed, .int l_feed, .int l_turns, .ref la_t, .int l_teethSet, .int l_teethMany, .ref la_h, .ref la_u, .ref la_o, .ref la_x, .int l_wear, .int l_x, .int l_v, .int l_wave, .int l_time, .int l_out, .int l_farthest, .int l_begun])), (xs, .inr (6, [.ref n, .ref fo, .ref wa, .ref we])), (n, .inl (cI, 36, .inl g_nums))]) F [1] [0, 2, 3] [0] rfl rfl (by decide) rfl (by decide) (by decide) rfl (fun sz => K_X5_least l D fr_ 96 (16 * (rr + 1)) ff cI (by decide) (by have := (gr_up hrr hr3 c_68).2; omega) (fun s hs => hff _ (by have := (gr_up hrr hr3 c_68).2; omega)) sz) (va_cwS 3 hts gX5_gapIn_X5_least rfl rfl rfl (by decide +kernel) ⟨Nat.le_of_ble_eq_true rfl, Nat.le_of_ble_eq_true rfl⟩) rfl (Nat.le_of_ble_eq_true rfl) ⟨Nat.le_of_ble_eq_true rfl, Nat.le_of_ble_eq_true rfl⟩ dX5_gapIn_83 (fun r_16 _ hw_17 => ?_)
      have hw_17 : r_16 = (sp_least (fun s => ff ((16 * (rr + 1)) + s)) 7) := hw_17
      have e_r_16 := hw_17
      show gG p l e (gR 2 0 0 64) s m args below meth c D A 8 Q 0 0 [(xl, .inr (4, [.ref xs, .int l_ring, .int l_speed, .int l_feed, .int l_turns, .ref la_t, .int l_teethSet, .int l_teethMany, .ref la_h, .ref la_u, .ref la_o, .ref la_x, .int l_wear, .int l_x, .int l_v, .int l_wave, .int l_time, .int l_out, .int l_farthest, .int l_begun])), (xs, .inr (6, [.ref n, .ref fo, .ref wa, .ref we])), (n, .inl (cI, 36, .inl g_nums)), (fr_, .inl (cI, 96, .inl ff))] [(cI, .int)] [(6, .int lv_), (5, .int (if 0 ≤ (l_ring + 1) ∧ (l_ring + 1) < 3 then 1 else 0)), (4, .int (if 0 ≤ (l_ring - 1) ∧ (l_ring - 1) < 3 then 1 else 0)), (3, .int 8), (0, .ref xl), (1, .ref fr_), (2, .int lv_)] 86 [.int r_16]
      refine g_fold (sp_least (fun s => ff ((16 * (rr + 1)) + s)) 7) e_r_16 ?_
      refine g_goto F 90 dX5_gapIn_86 (by decide) ?_
      refine g_istore F [(7, .int (sp_least (fun s => ff ((16 * (rr + 1)) + s)) 7)), (6, .int lv_), (5, .int (if 0 ≤ (l_ring + 1) ∧ (l_ring + 1) < 3 then 1 else 0)), (4, .int (if 0 ≤ (l_ring - 1) ∧ (l_ring - 1) < 3 then 1 else 0)), (3, .int 8), (0, .ref xl), (1, .ref fr_), (2, .int lv_)] dX5_gapIn_90 (by decide) rfl ?_
      refine g_iload F 3 dX5_gapIn_92 rfl ?_
      refine g_if_eq F 110 dX5_gapIn_94 (by decide) (fun c_94 => ?_) (fun c_94 => ?_)
      · have c_94 := gb_0 c_94
        refine g_iload F 3 dX5_gapIn_110 rfl ?_
        refine g_if_eq F 120 dX5_gapIn_112 (by decide) (fun c_112 => ?_) (fun c_112 => ?_)
        · have c_112 := gb_0 c_112
          refine g_iload F 0 dX5_gapIn_120 rfl ?_
          exact g_iret F hA hQ hr () (trivial) [0, 1, 2, 3] [0] rfl (by decide) rfl rfl dX5_gapIn_122
        · have c_112 := gb_n0 c_112
          refine g_iload F 1 dX5_gapIn_115 rfl ?_
          refine g_goto F 122 dX5_gapIn_117 (by decide) ?_
          exact g_iret F hA hQ hr () (trivial) [0, 1, 2, 3] [0] rfl (by decide) rfl rfl dX5_gapIn_122
      · have c_94 := gb_n0 c_94
        refine g_iload F 2 dX5_gapIn_97 rfl ?_
        refine g_if_eq F 110 dX5_gapIn_99 (by decide) (fun c_99 => ?_) (fun c_99 => ?_)
        · have c_99 := gb_0 c_99
          refine g_iload F 3 dX5_gapIn_110 rfl ?_
          refine g_if_eq F 120 dX5_gapIn_112 (by decide) (fun c_112 => ?_) (fun c_112 => ?_)
          · have c_112 := gb_0 c_112
            refine g_iload F 0 dX5_gapIn_120 rfl ?_
            exact g_iret F hA hQ hr () (trivial) [0, 1, 2, 3] [0] rfl (by decide) rfl rfl dX5_gapIn_122
          · have c_112 := gb_n0 c_112
            refine g_iload F 1 dX5_gapIn_115 rfl ?_
            refine g_goto F 122 dX5_gapIn_117 (by decide) ?_
            exact g_iret F hA hQ hr () (trivial) [0, 1, 2, 3] [0] rfl (by decide) rfl rfl dX5_gapIn_122
        · have c_99 := gb_n0 c_99
          refine g_iload F 1 dX5_gapIn_102 rfl ?_
          refine g_iload F 0 dX5_gapIn_104 rfl ?_
          refine g_mmin F w_3 w_4 w_5 w_6 (Nat.le_of_ble_eq_true rfl) (Nat.le_of_ble_eq_true rfl) (Nat.le_of_ble_eq_true rfl) (Nat.le_of_ble_eq_true rfl) dX5_gapIn_106 ?_
          exact g_iret F hA hQ hr () (trivial) [0, 1, 2, 3] [0] rfl (by decide) rfl rfl dX5_gapIn_109
  · have c_42 := gb_n0 c_42
    refine g_aload_n F 4 dX5_gapIn_45 rfl rfl ?_
    refine g_aload_n F 3 dX5_gapIn_46 rfl rfl ?_
    refine g_get (C := RX5) (T := TX5) (N := 20) (v := .int l_ring) F i_X5 0 rfl rfl 1 (by decide) w_2 rfl rfl dX5_gapIn_47 ?_
    refine g_iconst F 1 dX5_gapIn_50 (by decide) ?_
    refine g_isub F dX5_gapIn_51 ?_
    refine g_iconst F 0 dX5_gapIn_52 (by decide) ?_
    refine g_callSi (k := 0) (n := 0) (As := [.int (l_ring - 1), .int 0]) (st := [.ref fr_]) (wc := []) (wr := [(xl, .inr (4, [.ref xs, .int l_ring, .int l_speed, .int l_feed, .int l_turns, .ref la_t, .int l_teethSet, .int l_teethMany, .ref la_h, .ref la_u, .ref la_o, .ref la_x, .int l_wear, .int l_x, .int l_v, .int l_wave, .int l_time, .int l_out, .int l_farthest, .int l_begun])), (fr_, .inl (cI, 96, .inl ff)), (xs, .inr (6, [.ref n, .ref fo, .ref wa, .ref we])), (n, .inl (cI, 36, .inl g_nums))]) F [] [0, 1, 2, 3] [] rfl rfl (by decide) rfl (by decide) (by decide) rfl (fun sz => K_X6_placeOf l D (l_ring - 1) 0  sz) (va_cwS 2 hts gX5_gapIn_X6_placeOf rfl rfl rfl (by decide +kernel) ⟨Nat.le_of_ble_eq_true rfl, Nat.le_of_ble_eq_true rfl⟩) rfl (Nat.le_of_ble_eq_true rfl) ⟨Nat.le_of_ble_eq_true rfl, Nat.le_of_ble_eq_true rfl⟩ dX5_gapIn_53 (fun r_21 _ hw_22 => ?_)
    have hw_22 : r_21 = (((l_ring - 1) * 16) + (0 : Int32)) := hw_22
    have e_r_21 := hw_22
    show gG p l e (gR 2 0 0 64) s m args below meth c D A 8 Q 0 0 [(xl, .inr (4, [.ref xs, .int l_ring, .int l_speed, .int l_feed, .int l_turns, .ref la_t, .int l_teethSet, .int l_teethMany, .ref la_h, .ref la_u, .ref la_o, .ref la_x, .int l_wear, .int l_x, .int l_v, .int l_wave, .int l_time, .int l_out, .int l_farthest, .int l_begun])), (fr_, .inl (cI, 96, .inl ff)), (xs, .inr (6, [.ref n, .ref fo, .ref wa, .ref we])), (n, .inl (cI, 36, .inl g_nums))] [(cI, .int)] [(5, .int (if 0 ≤ (l_ring + 1) ∧ (l_ring + 1) < 3 then 1 else 0)), (4, .int (if 0 ≤ (l_ring - 1) ∧ (l_ring - 1) < 3 then 1 else 0)), (3, .int 8), (0, .ref xl), (1, .ref fr_), (2, .int lv_)] 56 [.int r_21, .ref fr_]
    refine g_fold (((l_ring - 1) * 16) + (0 : Int32)) e_r_21 ?_
    refine g_fold (nI (16 * (rr - 1))) ((gr_dn hrr hr3 c_42).1) ?_
    refine g_iload_n F 2 dX5_gapIn_56 rfl rfl ?_
    refine g_callSi (k := 0) (n := 0) (As := [.ref fr_, .int (nI (16 * (rr - 1))), .int 8]) (st := []) (wc := [(fr_, .inl (cI, 96, .inl ff))]) (wr := [(xl, .inr (4, [.ref xs, .int l_ring, .int l_speed, .int l_feed, .int l_turns, .ref la_t, .int l_teethSet, .int l_teethMany, .ref la_h, .ref la_u, .ref la_o, .ref la_x, .int l_wear, .int l_x, .int l_v, .int l_wave, .int l_time, .int l_out, .int l_farthest, .int l_begun])), (xs, .inr (6, [.ref n, .ref fo, .ref wa, .ref we])), (n, .inl (cI, 36, .inl g_nums))]) F [1] [0, 2, 3] [0] rfl rfl (by decide) rfl (by decide) (by decide) rfl (fun sz => K_X5_least l D fr_ 96 (16 * (rr - 1)) ff cI (by decide) (by have := (gr_dn hrr hr3 c_42).2; omega) (fun s hs => hff _ (by have := (gr_dn hrr hr3 c_42).2; omega)) sz) (va_cwS 3 hts gX5_gapIn_X5_least rfl rfl rfl (by decide +kernel) ⟨Nat.le_of_ble_eq_true rfl, Nat.le_of_ble_eq_true rfl⟩) rfl (Nat.le_of_ble_eq_true rfl) ⟨Nat.le_of_ble_eq_true rfl, Nat.le_of_ble_eq_true rfl⟩ dX5_gapIn_57 (fun r_26 _ hw_27 => ?_)
    have hw_27 : r_26 = (sp_least (fun s => ff ((16 * (rr - 1)) + s)) 7) := hw_27
    have e_r_26 := hw_27
    show gG p l e (gR 2 0 0 64) s m args below meth c D A 8 Q 0 0 [(xl, .inr (4, [.ref xs, .int l_ring, .int l_speed, .int l_feed, .int l_turns, .ref la_t, .int l_teethSet, .int l_teethMany, .ref la_h, .ref la_u, .ref la_o, .ref la_x, .int l_wear, .int l_x, .int l_v, .int l_wave, .int l_time, .int l_out, .int l_farthest, .int l_begun])), (xs, .inr (6, [.ref n, .ref fo, .ref wa, .ref we])), (n, .inl (cI, 36, .inl g_nums)), (fr_, .inl (cI, 96, .inl ff))] [(cI, .int)] [(5, .int (if 0 ≤ (l_ring + 1) ∧ (l_ring + 1) < 3 then 1 else 0)), (4, .int (if 0 ≤ (l_ring - 1) ∧ (l_ring - 1) < 3 then 1 else 0)), (3, .int 8), (0, .ref xl), (1, .ref fr_), (2, .int lv_)] 60 [.int r_26]
    refine g_fold (sp_least (fun s => ff ((16 * (rr - 1)) + s)) 7) e_r_26 ?_
    refine g_goto F 64 dX5_gapIn_60 (by decide) ?_
    refine g_istore F [(6, .int (sp_least (fun s => ff ((16 * (rr - 1)) + s)) 7)), (5, .int (if 0 ≤ (l_ring + 1) ∧ (l_ring + 1) < 3 then 1 else 0)), (4, .int (if 0 ≤ (l_ring - 1) ∧ (l_ring - 1) < 3 then 1 else 0)), (3, .int 8), (0, .ref xl), (1, .ref fr_), (2, .int lv_)] dX5_gapIn_64 (by decide) rfl ?_
    refine g_iload F 1 dX5_gapIn_66 rfl ?_
    refine g_if_eq F 89 dX5_gapIn_68 (by decide) (fun c_68 => ?_) (fun c_68 => ?_)
    · have c_68 := gb_0 c_68
      refine g_iload_n F 6 dX5_gapIn_89 rfl rfl ?_
      refine g_istore F [(7, .int lv_), (6, .int (sp_least (fun s => ff ((16 * (rr - 1)) + s)) 7)), (5, .int (if 0 ≤ (l_ring + 1) ∧ (l_ring + 1) < 3 then 1 else 0)), (4, .int (if 0 ≤ (l_ring - 1) ∧ (l_ring - 1) < 3 then 1 else 0)), (3, .int 8), (0, .ref xl), (1, .ref fr_), (2, .int lv_)] dX5_gapIn_90 (by decide) rfl ?_
      refine g_iload F 3 dX5_gapIn_92 rfl ?_
      refine g_if_eq F 110 dX5_gapIn_94 (by decide) (fun c_94 => ?_) (fun c_94 => ?_)
      · have c_94 := gb_0 c_94
        refine g_iload F 3 dX5_gapIn_110 rfl ?_
        refine g_if_eq F 120 dX5_gapIn_112 (by decide) (fun c_112 => ?_) (fun c_112 => ?_)
        · have c_112 := gb_0 c_112
          refine g_iload F 0 dX5_gapIn_120 rfl ?_
          exact g_iret F hA hQ hr () (trivial) [0, 1, 2, 3] [0] rfl (by decide) rfl rfl dX5_gapIn_122
        · have c_112 := gb_n0 c_112
          refine g_iload F 1 dX5_gapIn_115 rfl ?_
          refine g_goto F 122 dX5_gapIn_117 (by decide) ?_
          exact g_iret F hA hQ hr () (trivial) [0, 1, 2, 3] [0] rfl (by decide) rfl rfl dX5_gapIn_122
      · have c_94 := gb_n0 c_94
        refine g_iload F 2 dX5_gapIn_97 rfl ?_
        refine g_if_eq F 110 dX5_gapIn_99 (by decide) (fun c_99 => ?_) (fun c_99 => ?_)
        · have c_99 := gb_0 c_99
          refine g_iload F 3 dX5_gapIn_110 rfl ?_
          refine g_if_eq F 120 dX5_gapIn_112 (by decide) (fun c_112 => ?_) (fun c_112 => ?_)
          · have c_112 := gb_0 c_112
            refine g_iload F 0 dX5_gapIn_120 rfl ?_
            exact g_iret F hA hQ hr () (trivial) [0, 1, 2, 3] [0] rfl (by decide) rfl rfl dX5_gapIn_122
          · have c_112 := gb_n0 c_112
            refine g_iload F 1 dX5_gapIn_115 rfl ?_
            refine g_goto F 122 dX5_gapIn_117 (by decide) ?_
            exact g_iret F hA hQ hr () (trivial) [0, 1, 2, 3] [0] rfl (by decide) rfl rfl dX5_gapIn_122
        · have c_99 := gb_n0 c_99
          refine g_iload F 1 dX5_gapIn_102 rfl ?_
          refine g_iload F 0 dX5_gapIn_104 rfl ?_
          refine g_mmin F w_3 w_4 w_5 w_6 (Nat.le_of_ble_eq_true rfl) (Nat.le_of_ble_eq_true rfl) (Nat.le_of_ble_eq_true rfl) (Nat.le_of_ble_eq_true rfl) dX5_gapIn_106 ?_
          exact g_iret F hA hQ hr () (trivial) [0, 1, 2, 3] [0] rfl (by decide) rfl rfl dX5_gapIn_109
    · have c_68 := gb_n0 c_68
      refine g_aload_n F 5 dX5_gapIn_71 rfl rfl ?_
      refine g_aload_n F 4 dX5_gapIn_72 rfl rfl ?_
      refine g_get (C := RX5) (T := TX5) (N := 20) (v := .int l_ring) F i_X5 0 rfl rfl 1 (by decide) w_2 rfl rfl dX5_gapIn_73 ?_
      refine g_iconst F 1 dX5_gapIn_76 (by decide) ?_
      refine g_iadd F dX5_gapIn_77 ?_
      refine g_iconst F 0 dX5_gapIn_78 (by decide) ?_
      refine g_callSi (k := 0) (n := 0) (As := [.int (l_ring + 1), .int 0]) (st := [.ref fr_]) (wc := []) (wr := [(xl, .inr (4, [.ref xs, .int l_ring, .int l_speed, .int l_feed, .int l_turns, .ref la_t, .int l_teethSet, .int l_teethMany, .ref la_h, .ref la_u, .ref la_o, .ref la_x, .int l_wear, .int l_x, .int l_v, .int l_wave, .int l_time, .int l_out, .int l_farthest, .int l_begun])), (xs, .inr (6, [.ref n, .ref fo, .ref wa, .ref we])), (n, .inl (cI, 36, .inl g_nums)), (fr_, .inl (cI, 96, .inl ff))]) F [] [0, 1, 2, 3] [] rfl rfl (by decide) rfl (by decide) (by decide) rfl (fun sz => K_X6_placeOf l D (l_ring + 1) 0  sz) (va_cwS 2 hts gX5_gapIn_X6_placeOf rfl rfl rfl (by decide +kernel) ⟨Nat.le_of_ble_eq_true rfl, Nat.le_of_ble_eq_true rfl⟩) rfl (Nat.le_of_ble_eq_true rfl) ⟨Nat.le_of_ble_eq_true rfl, Nat.le_of_ble_eq_true rfl⟩ dX5_gapIn_79 (fun r_31 _ hw_32 => ?_)
      have hw_32 : r_31 = (((l_ring + 1) * 16) + (0 : Int32)) := hw_32
      have e_r_31 := hw_32
      show gG p l e (gR 2 0 0 64) s m args below meth c D A 8 Q 0 0 [(xl, .inr (4, [.ref xs, .int l_ring, .int l_speed, .int l_feed, .int l_turns, .ref la_t, .int l_teethSet, .int l_teethMany, .ref la_h, .ref la_u, .ref la_o, .ref la_x, .int l_wear, .int l_x, .int l_v, .int l_wave, .int l_time, .int l_out, .int l_farthest, .int l_begun])), (xs, .inr (6, [.ref n, .ref fo, .ref wa, .ref we])), (n, .inl (cI, 36, .inl g_nums)), (fr_, .inl (cI, 96, .inl ff))] [(cI, .int)] [(6, .int (sp_least (fun s => ff ((16 * (rr - 1)) + s)) 7)), (5, .int (if 0 ≤ (l_ring + 1) ∧ (l_ring + 1) < 3 then 1 else 0)), (4, .int (if 0 ≤ (l_ring - 1) ∧ (l_ring - 1) < 3 then 1 else 0)), (3, .int 8), (0, .ref xl), (1, .ref fr_), (2, .int lv_)] 82 [.int r_31, .ref fr_]
      refine g_fold (((l_ring + 1) * 16) + (0 : Int32)) e_r_31 ?_
      refine g_fold (nI (16 * (rr + 1))) ((gr_up hrr hr3 c_68).1) ?_
      refine g_iload_n F 3 dX5_gapIn_82 rfl rfl ?_
      refine g_callSi (k := 0) (n := 0) (As := [.ref fr_, .int (nI (16 * (rr + 1))), .int 8]) (st := []) (wc := [(fr_, .inl (cI, 96, .inl ff))]) (wr := [(xl, .inr (4, [.ref xs, .int l_ring, .int l_speed, .int l_feed, .int l_turns, .ref la_t, .int l_teethSet, .int l_teethMany, .ref la_h, .ref la_u, .ref la_o, .ref la_x, .int l_wear, .int l_x, .int l_v, .int l_wave, .int l_time, .int l_out, .int l_farthest, .int l_begun])), (xs, .inr (6, [.ref n, .ref fo, .ref wa, .ref we])), (n, .inl (cI, 36, .inl g_nums))]) F [3] [0, 1, 2] [0] rfl rfl (by decide) rfl (by decide) (by decide) rfl (fun sz => K_X5_least l D fr_ 96 (16 * (rr + 1)) ff cI (by decide) (by have := (gr_up hrr hr3 c_68).2; omega) (fun s hs => hff _ (by have := (gr_up hrr hr3 c_68).2; omega)) sz) (va_cwS 3 hts gX5_gapIn_X5_least rfl rfl rfl (by decide +kernel) ⟨Nat.le_of_ble_eq_true rfl, Nat.le_of_ble_eq_true rfl⟩) rfl (Nat.le_of_ble_eq_true rfl) ⟨Nat.le_of_ble_eq_true rfl, Nat.le_of_ble_eq_true rfl⟩ dX5_gapIn_83 (fun r_36 _ hw_37 => ?_)
      have hw_37 : r_36 = (sp_least (fun s => ff ((16 * (rr + 1)) + s)) 7) := hw_37
      have e_r_36 := hw_37
      show gG p l e (gR 2 0 0 64) s m args below meth c D A 8 Q 0 0 [(xl, .inr (4, [.ref xs, .int l_ring, .int l_speed, .int l_feed, .int l_turns, .ref la_t, .int l_teethSet, .int l_teethMany, .ref la_h, .ref la_u, .ref la_o, .ref la_x, .int l_wear, .int l_x, .int l_v, .int l_wave, .int l_time, .int l_out, .int l_farthest, .int l_begun])), (xs, .inr (6, [.ref n, .ref fo, .ref wa, .ref we])), (n, .inl (cI, 36, .inl g_nums)), (fr_, .inl (cI, 96, .inl ff))] [(cI, .int)] [(6, .int (sp_least (fun s => ff ((16 * (rr - 1)) + s)) 7)), (5, .int (if 0 ≤ (l_ring + 1) ∧ (l_ring + 1) < 3 then 1 else 0)), (4, .int (if 0 ≤ (l_ring - 1) ∧ (l_ring - 1) < 3 then 1 else 0)), (3, .int 8), (0, .ref xl), (1, .ref fr_), (2, .int lv_)] 86 [.int r_36]
      refine g_fold (sp_least (fun s => ff ((16 * (rr + 1)) + s)) 7) e_r_36 ?_
      refine g_goto F 90 dX5_gapIn_86 (by decide) ?_
      refine g_istore F [(7, .int (sp_least (fun s => ff ((16 * (rr + 1)) + s)) 7)), (6, .int (sp_least (fun s => ff ((16 * (rr - 1)) + s)) 7)), (5, .int (if 0 ≤ (l_ring + 1) ∧ (l_ring + 1) < 3 then 1 else 0)), (4, .int (if 0 ≤ (l_ring - 1) ∧ (l_ring - 1) < 3 then 1 else 0)), (3, .int 8), (0, .ref xl), (1, .ref fr_), (2, .int lv_)] dX5_gapIn_90 (by decide) rfl ?_
      refine g_iload F 3 dX5_gapIn_92 rfl ?_
      refine g_if_eq F 110 dX5_gapIn_94 (by decide) (fun c_94 => ?_) (fun c_94 => ?_)
      · have c_94 := gb_0 c_94
        refine g_iload F 3 dX5_gapIn_110 rfl ?_
        refine g_if_eq F 120 dX5_gapIn_112 (by decide) (fun c_112 => ?_) (fun c_112 => ?_)
        · have c_112 := gb_0 c_112
          refine g_iload F 0 dX5_gapIn_120 rfl ?_
          exact g_iret F hA hQ hr () (trivial) [0, 1, 2, 3] [0] rfl (by decide) rfl rfl dX5_gapIn_122
        · have c_112 := gb_n0 c_112
          refine g_iload F 1 dX5_gapIn_115 rfl ?_
          refine g_goto F 122 dX5_gapIn_117 (by decide) ?_
          exact g_iret F hA hQ hr () (trivial) [0, 1, 2, 3] [0] rfl (by decide) rfl rfl dX5_gapIn_122
      · have c_94 := gb_n0 c_94
        refine g_iload F 2 dX5_gapIn_97 rfl ?_
        refine g_if_eq F 110 dX5_gapIn_99 (by decide) (fun c_99 => ?_) (fun c_99 => ?_)
        · have c_99 := gb_0 c_99
          refine g_iload F 3 dX5_gapIn_110 rfl ?_
          refine g_if_eq F 120 dX5_gapIn_112 (by decide) (fun c_112 => ?_) (fun c_112 => ?_)
          · have c_112 := gb_0 c_112
            refine g_iload F 0 dX5_gapIn_120 rfl ?_
            exact g_iret F hA hQ hr () (trivial) [0, 1, 2, 3] [0] rfl (by decide) rfl rfl dX5_gapIn_122
          · have c_112 := gb_n0 c_112
            refine g_iload F 1 dX5_gapIn_115 rfl ?_
            refine g_goto F 122 dX5_gapIn_117 (by decide) ?_
            exact g_iret F hA hQ hr () (trivial) [0, 1, 2, 3] [0] rfl (by decide) rfl rfl dX5_gapIn_122
        · have c_99 := gb_n0 c_99
          refine g_iload F 1 dX5_gapIn_102 rfl ?_
          refine g_iload F 0 dX5_gapIn_104 rfl ?_
          refine g_mmin F w_3 w_4 w_5 w_6 (Nat.le_of_ble_eq_true rfl) (Nat.le_of_ble_eq_true rfl) (Nat.le_of_ble_eq_true rfl) (Nat.le_of_ble_eq_true rfl) dX5_gapIn_106 ?_
          exact g_iret F hA hQ hr () (trivial) [0, 1, 2, 3] [0] rfl (by decide) rfl rfl dX5_gapIn_109
