theorem dX10_hasRoomFor_0 : decode cX10_hasRoomFor 0 = .ok (.aload_n 0, 1) := by decide +kernel
theorem dX10_hasRoomFor_1 : decode cX10_hasRoomFor 1 = .ok (.getfield 13, 3) := by decide +kernel
theorem dX10_hasRoomFor_4 : decode cX10_hasRoomFor 4 = .ok (.iload_n 1, 1) := by decide +kernel
theorem dX10_hasRoomFor_5 : decode cX10_hasRoomFor 5 = .ok (.iadd, 1) := by decide +kernel
theorem dX10_hasRoomFor_6 : decode cX10_hasRoomFor 6 = .ok (.sipush 1000, 3) := by decide +kernel
theorem dX10_hasRoomFor_9 : decode cX10_hasRoomFor 9 = .ok (.if_icmp .gt 7, 3) := by decide +kernel
theorem dX10_hasRoomFor_12 : decode cX10_hasRoomFor 12 = .ok (.iconst 1, 1) := by decide +kernel
theorem dX10_hasRoomFor_13 : decode cX10_hasRoomFor 13 = .ok (.goto 4, 3) := by decide +kernel
theorem dX10_hasRoomFor_16 : decode cX10_hasRoomFor 16 = .ok (.iconst 0, 1) := by decide +kernel
theorem dX10_hasRoomFor_17 : decode cX10_hasRoomFor 17 = .ok (.ireturn, 1) := by decide +kernel
set_option maxHeartbeats 4000000 in
set_option maxRecDepth 100000 in
theorem S_X10_hasRoomFor (l : Launch) (D : va_G) (K : Nat → ClassId) (a : Nat → Nat) (G : gS) (p0 : Int32) (s0 : Int) (e0 : p0.toInt = s0) (h0 : 0 ≤ s0 ∧ s0 ≤ 100) (hI : xI G) (sz : Nat) : Ki l yX10_hasRoomFor wsX10_hasRoomFor 1 40 0 0 D [.ref (a 1), .int p0] (xW K a G) (tK K) sz (fun (r : Int32) (_ : Unit) => ((r = 1 ∧ ((G 1 1).toInt + s0 ≤ 1000)) ∨ (r = 0 ∧ (1000 < (G 1 1).toInt + s0)))) (fun (_ : Unit) => (xW K a G)) (fun _ => (tK K)) := by
  unfold Ki
  refine g_ofW (cc := cX10_hasRoomFor) (lv := [(0, .ref (a 1)), (1, .int p0)]) (by decide) rfl (Nat.le_of_ble_eq_true rfl) rfl ?_
  intro p e s m args below meth c A Q hA hQ F hr hnm
  have hts := F.2.2.2.2.1
  have w_0 : (Cond.fieldLink RX10 13 "QuietCut$Tape" "length" "I").before args s = true := hts _ (List.mem_of_getElem? (i := 1) rfl)
  have i_X10 : ∀ w ∈ u_ws RX10 TX10 6, w ∈ wsX10_hasRoomFor := fun _ h => List.mem_cons_of_mem _ (List.mem_append_right _ h)
  refine g_aload_n F 0 dX10_hasRoomFor_0 rfl rfl ?_
  refine xg_1_1 F i_X10 w_0 dX10_hasRoomFor_1 (G 1 1) (rfl) ?_
  refine g_iload_n F 1 dX10_hasRoomFor_4 rfl rfl ?_
  have b2 : (0 : Int) ≤ (G 1 1).toInt ∧ (G 1 1).toInt ≤ 1000 := hI 1 1
  refine u_iadd F dX10_hasRoomFor_5 (G 1 1).toInt s0 rfl e0 (by omega) (by omega) (fun y1 ey1 => ?_)
  refine g_sipush F 1000 dX10_hasRoomFor_6 (by decide) ?_
  refine v_icmp_gt F 16 dX10_hasRoomFor_9 (by decide) y1.toInt 1000 rfl rfl (fun c3 => ?_) (fun c3 => ?_)
  · refine g_iconst F 0 dX10_hasRoomFor_16 (by decide) ?_
    exact u_zret F hA hQ hr rfl () ((Or.inr (⟨rfl, by first | trivial | omega⟩))) rfl rfl dX10_hasRoomFor_17
  · refine g_iconst F 1 dX10_hasRoomFor_12 (by decide) ?_
    refine g_goto F 17 dX10_hasRoomFor_13 (by decide) ?_
    exact u_zret F hA hQ hr rfl () ((Or.inl (⟨rfl, by first | trivial | omega⟩))) rfl rfl dX10_hasRoomFor_17

theorem dX10_byteAt_0 : decode cX10_byteAt 0 = .ok (.iload_n 1, 1) := by decide +kernel
theorem dX10_byteAt_1 : decode cX10_byteAt 1 = .ok (.ifCond .lt 24, 3) := by decide +kernel
theorem dX10_byteAt_4 : decode cX10_byteAt 4 = .ok (.iload_n 1, 1) := by decide +kernel
theorem dX10_byteAt_5 : decode cX10_byteAt 5 = .ok (.aload_n 0, 1) := by decide +kernel
theorem dX10_byteAt_6 : decode cX10_byteAt 6 = .ok (.getfield 13, 3) := by decide +kernel
theorem dX10_byteAt_9 : decode cX10_byteAt 9 = .ok (.if_icmp .ge 16, 3) := by decide +kernel
theorem dX10_byteAt_12 : decode cX10_byteAt 12 = .ok (.aload_n 0, 1) := by decide +kernel
theorem dX10_byteAt_13 : decode cX10_byteAt 13 = .ok (.getfield 9, 3) := by decide +kernel
theorem dX10_byteAt_16 : decode cX10_byteAt 16 = .ok (.iload_n 1, 1) := by decide +kernel
theorem dX10_byteAt_17 : decode cX10_byteAt 17 = .ok (.baload, 1) := by decide +kernel
theorem dX10_byteAt_18 : decode cX10_byteAt 18 = .ok (.sipush 255, 3) := by decide +kernel
theorem dX10_byteAt_21 : decode cX10_byteAt 21 = .ok (.iand, 1) := by decide +kernel
theorem dX10_byteAt_22 : decode cX10_byteAt 22 = .ok (.goto 4, 3) := by decide +kernel
theorem dX10_byteAt_25 : decode cX10_byteAt 25 = .ok (.iconst 0, 1) := by decide +kernel
theorem dX10_byteAt_26 : decode cX10_byteAt 26 = .ok (.ireturn, 1) := by decide +kernel
set_option maxHeartbeats 4000000 in
set_option maxRecDepth 100000 in
theorem S_X10_byteAt (l : Launch) (D : va_G) (K : Nat → ClassId) (a : Nat → Nat) (G : gS) (p0 : Int32) (s0 : Int) (e0 : p0.toInt = s0) (hI : xI G) (sz : Nat) : Ki l yX10_byteAt wsX10_byteAt 1 40 0 0 D [.ref (a 1), .int p0] (xW K a G) (tK K) sz (fun (r : Int32) (_ : Unit) => (0 ≤ r.toInt ∧ r.toInt ≤ 255) ∧ ((0 ≤ s0 → r.toInt = yBi (G 17) (G 1 1).toInt s0))) (fun (_ : Unit) => (xW K a G)) (fun _ => (tK K)) := by
  unfold Ki
  refine g_ofW (cc := cX10_byteAt) (lv := [(0, .ref (a 1)), (1, .int p0)]) (by decide) rfl (Nat.le_of_ble_eq_true rfl) rfl ?_
  intro p e s m args below meth c A Q hA hQ F hr hnm
  have hts := F.2.2.2.2.1
  have w_0 : (Cond.fieldLink RX10 13 "QuietCut$Tape" "length" "I").before args s = true := hts _ (List.mem_of_getElem? (i := 1) rfl)
  have i_X10 : ∀ w ∈ u_ws RX10 TX10 6, w ∈ wsX10_byteAt := fun _ h => List.mem_cons_of_mem _ (List.mem_append_right _ h)
  have w_1 : (Cond.fieldLink RX10 9 "QuietCut$Tape" "bytes" "[B").before args s = true := hts _ (List.mem_of_getElem? (i := 2) rfl)
  have rg0 : -2147483648 ≤ s0 ∧ s0 ≤ 2147483647 := e0 ▸ ti_rng p0
  refine g_iload_n F 1 dX10_byteAt_0 rfl rfl ?_
  refine v_if_lt F 25 dX10_byteAt_1 (by decide) s0 e0 (fun c1 => ?_) (fun c1 => ?_)
  · refine g_iconst F 0 dX10_byteAt_25 (by decide) ?_
    exact u_iret F hA hQ hr () (⟨(by first | decide | exact ti_andm (b := 255) rfl (by decide)), (by intro h9; unfold yBi; first | (exfalso; omega) | (rw [if_pos (by omega)] <;> done) | (rw [if_neg (by omega)] <;> rfl))⟩) rfl rfl dX10_byteAt_26
  · refine g_iload_n F 1 dX10_byteAt_4 rfl rfl ?_
    refine g_aload_n F 0 dX10_byteAt_5 rfl rfl ?_
    refine xg_1_1 F i_X10 w_0 dX10_byteAt_6 (G 1 1) (rfl) ?_
    have b2 : (0 : Int) ≤ (G 1 1).toInt ∧ (G 1 1).toInt ≤ 1000 := hI 1 1
    refine v_icmp_ge F 25 dX10_byteAt_9 (by decide) s0 (G 1 1).toInt e0 rfl (fun c3 => ?_) (fun c3 => ?_)
    · refine g_iconst F 0 dX10_byteAt_25 (by decide) ?_
      exact u_iret F hA hQ hr () (⟨(by first | decide | exact ti_andm (b := 255) rfl (by decide)), (by intro h9; unfold yBi; first | (exfalso; omega) | (rw [if_pos (by omega)] <;> done) | (rw [if_neg (by omega)] <;> rfl))⟩) rfl rfl dX10_byteAt_26
    · refine g_aload_n F 0 dX10_byteAt_12 rfl rfl ?_
      refine xg_1_0 F i_X10 w_1 dX10_byteAt_13 ?_
      refine g_iload_n F 1 dX10_byteAt_16 rfl rfl ?_
      refine u1_bald F 17 2 xc_17 rfl s0 e0 (by omega) (by omega) dX10_byteAt_17 ((G 17) (s0).toNat) (rfl) ?_
      have b4 : ((-128) : Int) ≤ ((G 17) (s0).toNat).toInt ∧ ((G 17) (s0).toNat).toInt ≤ 127 := hI 17 _
      refine g_sipush F 255 dX10_byteAt_18 (by decide) ?_
      refine g_iand F dX10_byteAt_21 ?_
      refine g_goto F 26 dX10_byteAt_22 (by decide) ?_
      exact u_iret F hA hQ hr () (⟨(by first | decide | exact ti_andm (b := 255) rfl (by decide)), (by intro h9; unfold yBi; first | (exfalso; omega) | (rw [if_pos (by omega)] <;> done) | (rw [if_neg (by omega)] <;> rfl))⟩) rfl rfl dX10_byteAt_26

theorem dX10_isBlank_0 : decode cX10_isBlank 0 = .ok (.iload_n 0, 1) := by decide +kernel
theorem dX10_isBlank_1 : decode cX10_isBlank 1 = .ok (.bipush 32, 2) := by decide +kernel
theorem dX10_isBlank_3 : decode cX10_isBlank 3 = .ok (.if_icmp .eq 9, 3) := by decide +kernel
theorem dX10_isBlank_6 : decode cX10_isBlank 6 = .ok (.iload_n 0, 1) := by decide +kernel
theorem dX10_isBlank_7 : decode cX10_isBlank 7 = .ok (.bipush 10, 2) := by decide +kernel
theorem dX10_isBlank_9 : decode cX10_isBlank 9 = .ok (.if_icmp .ne 7, 3) := by decide +kernel
theorem dX10_isBlank_12 : decode cX10_isBlank 12 = .ok (.iconst 1, 1) := by decide +kernel
theorem dX10_isBlank_13 : decode cX10_isBlank 13 = .ok (.goto 4, 3) := by decide +kernel
theorem dX10_isBlank_16 : decode cX10_isBlank 16 = .ok (.iconst 0, 1) := by decide +kernel
theorem dX10_isBlank_17 : decode cX10_isBlank 17 = .ok (.ireturn, 1) := by decide +kernel
set_option maxHeartbeats 4000000 in
set_option maxRecDepth 100000 in
theorem S_X10_isBlank (l : Launch) (D : va_G)  (p0 : Int32) (s0 : Int) (e0 : p0.toInt = s0) (sz : Nat) : Ki l yX10_isBlank wsX10_isBlank 1 40 0 0 D [.int p0] [] [] sz (fun (r : Int32) (_ : Unit) => ((r = 1 ∧ (s0 = 32 ∨ s0 = 10)) ∨ (r = 0 ∧ (s0 ≠ 32 ∧ s0 ≠ 10)))) (fun (_ : Unit) => []) (fun _ => []) := by
  unfold Ki
  refine g_ofW (cc := cX10_isBlank) (lv := [(0, .int p0)]) (by decide) rfl (Nat.le_of_ble_eq_true rfl) rfl ?_
  intro p e s m args below meth c A Q hA hQ F hr hnm
  have hts := F.2.2.2.2.1
  have rg0 : -2147483648 ≤ s0 ∧ s0 ≤ 2147483647 := e0 ▸ ti_rng p0
  refine g_iload_n F 0 dX10_isBlank_0 rfl rfl ?_
  refine g_bipush F 32 dX10_isBlank_1 (by decide) ?_
  refine v_icmp_eq F 12 dX10_isBlank_3 (by decide) s0 32 e0 rfl (fun c1 => ?_) (fun c1 => ?_)
  · refine g_iconst F 1 dX10_isBlank_12 (by decide) ?_
    refine g_goto F 17 dX10_isBlank_13 (by decide) ?_
    exact u_zret F hA hQ hr rfl () ((Or.inl (⟨rfl, by first | trivial | omega⟩))) rfl rfl dX10_isBlank_17
  · refine g_iload_n F 0 dX10_isBlank_6 rfl rfl ?_
    refine g_bipush F 10 dX10_isBlank_7 (by decide) ?_
    refine v_icmp_ne F 16 dX10_isBlank_9 (by decide) s0 10 e0 rfl (fun c2 => ?_) (fun c2 => ?_)
    · refine g_iconst F 0 dX10_isBlank_16 (by decide) ?_
      exact u_zret F hA hQ hr rfl () ((Or.inr (⟨rfl, by first | trivial | omega⟩))) rfl rfl dX10_isBlank_17
    · refine g_iconst F 1 dX10_isBlank_12 (by decide) ?_
      refine g_goto F 17 dX10_isBlank_13 (by decide) ?_
      exact u_zret F hA hQ hr rfl () ((Or.inl (⟨rfl, by first | trivial | omega⟩))) rfl rfl dX10_isBlank_17

theorem dX10_isLetter_0 : decode cX10_isLetter 0 = .ok (.iload_n 0, 1) := by decide +kernel
theorem dX10_isLetter_1 : decode cX10_isLetter 1 = .ok (.bipush 97, 2) := by decide +kernel
theorem dX10_isLetter_3 : decode cX10_isLetter 3 = .ok (.if_icmp .lt 13, 3) := by decide +kernel
theorem dX10_isLetter_6 : decode cX10_isLetter 6 = .ok (.iload_n 0, 1) := by decide +kernel
theorem dX10_isLetter_7 : decode cX10_isLetter 7 = .ok (.bipush 122, 2) := by decide +kernel
theorem dX10_isLetter_9 : decode cX10_isLetter 9 = .ok (.if_icmp .gt 7, 3) := by decide +kernel
theorem dX10_isLetter_12 : decode cX10_isLetter 12 = .ok (.iconst 1, 1) := by decide +kernel
theorem dX10_isLetter_13 : decode cX10_isLetter 13 = .ok (.goto 4, 3) := by decide +kernel
theorem dX10_isLetter_16 : decode cX10_isLetter 16 = .ok (.iconst 0, 1) := by decide +kernel
theorem dX10_isLetter_17 : decode cX10_isLetter 17 = .ok (.ireturn, 1) := by decide +kernel
set_option maxHeartbeats 4000000 in
set_option maxRecDepth 100000 in
theorem S_X10_isLetter (l : Launch) (D : va_G)  (p0 : Int32) (s0 : Int) (e0 : p0.toInt = s0) (sz : Nat) : Ki l yX10_isLetter wsX10_isLetter 1 40 0 0 D [.int p0] [] [] sz (fun (r : Int32) (_ : Unit) => ((r = 1 ∧ (97 ≤ s0 ∧ s0 ≤ 122)) ∨ (r = 0 ∧ (s0 < 97 ∨ 122 < s0)))) (fun (_ : Unit) => []) (fun _ => []) := by
  unfold Ki
  refine g_ofW (cc := cX10_isLetter) (lv := [(0, .int p0)]) (by decide) rfl (Nat.le_of_ble_eq_true rfl) rfl ?_
  intro p e s m args below meth c A Q hA hQ F hr hnm
  have hts := F.2.2.2.2.1
  have rg0 : -2147483648 ≤ s0 ∧ s0 ≤ 2147483647 := e0 ▸ ti_rng p0
  refine g_iload_n F 0 dX10_isLetter_0 rfl rfl ?_
  refine g_bipush F 97 dX10_isLetter_1 (by decide) ?_
  refine v_icmp_lt F 16 dX10_isLetter_3 (by decide) s0 97 e0 rfl (fun c1 => ?_) (fun c1 => ?_)
  · refine g_iconst F 0 dX10_isLetter_16 (by decide) ?_
    exact u_zret F hA hQ hr rfl () ((Or.inr (⟨rfl, by first | trivial | omega⟩))) rfl rfl dX10_isLetter_17
  · refine g_iload_n F 0 dX10_isLetter_6 rfl rfl ?_
    refine g_bipush F 122 dX10_isLetter_7 (by decide) ?_
    refine v_icmp_gt F 16 dX10_isLetter_9 (by decide) s0 122 e0 rfl (fun c2 => ?_) (fun c2 => ?_)
    · refine g_iconst F 0 dX10_isLetter_16 (by decide) ?_
      exact u_zret F hA hQ hr rfl () ((Or.inr (⟨rfl, by first | trivial | omega⟩))) rfl rfl dX10_isLetter_17
    · refine g_iconst F 1 dX10_isLetter_12 (by decide) ?_
      refine g_goto F 17 dX10_isLetter_13 (by decide) ?_
      exact u_zret F hA hQ hr rfl () ((Or.inl (⟨rfl, by first | trivial | omega⟩))) rfl rfl dX10_isLetter_17

theorem dX10_isDigit_0 : decode cX10_isDigit 0 = .ok (.iload_n 0, 1) := by decide +kernel
theorem dX10_isDigit_1 : decode cX10_isDigit 1 = .ok (.bipush 48, 2) := by decide +kernel
theorem dX10_isDigit_3 : decode cX10_isDigit 3 = .ok (.if_icmp .lt 13, 3) := by decide +kernel
theorem dX10_isDigit_6 : decode cX10_isDigit 6 = .ok (.iload_n 0, 1) := by decide +kernel
theorem dX10_isDigit_7 : decode cX10_isDigit 7 = .ok (.bipush 57, 2) := by decide +kernel
theorem dX10_isDigit_9 : decode cX10_isDigit 9 = .ok (.if_icmp .gt 7, 3) := by decide +kernel
theorem dX10_isDigit_12 : decode cX10_isDigit 12 = .ok (.iconst 1, 1) := by decide +kernel
theorem dX10_isDigit_13 : decode cX10_isDigit 13 = .ok (.goto 4, 3) := by decide +kernel
theorem dX10_isDigit_16 : decode cX10_isDigit 16 = .ok (.iconst 0, 1) := by decide +kernel
theorem dX10_isDigit_17 : decode cX10_isDigit 17 = .ok (.ireturn, 1) := by decide +kernel
set_option maxHeartbeats 4000000 in
set_option maxRecDepth 100000 in
theorem S_X10_isDigit (l : Launch) (D : va_G)  (p0 : Int32) (s0 : Int) (e0 : p0.toInt = s0) (sz : Nat) : Ki l yX10_isDigit wsX10_isDigit 1 40 0 0 D [.int p0] [] [] sz (fun (r : Int32) (_ : Unit) => ((r = 1 ∧ (48 ≤ s0 ∧ s0 ≤ 57)) ∨ (r = 0 ∧ (s0 < 48 ∨ 57 < s0)))) (fun (_ : Unit) => []) (fun _ => []) := by
  unfold Ki
  refine g_ofW (cc := cX10_isDigit) (lv := [(0, .int p0)]) (by decide) rfl (Nat.le_of_ble_eq_true rfl) rfl ?_
  intro p e s m args below meth c A Q hA hQ F hr hnm
  have hts := F.2.2.2.2.1
  have rg0 : -2147483648 ≤ s0 ∧ s0 ≤ 2147483647 := e0 ▸ ti_rng p0
  refine g_iload_n F 0 dX10_isDigit_0 rfl rfl ?_
  refine g_bipush F 48 dX10_isDigit_1 (by decide) ?_
  refine v_icmp_lt F 16 dX10_isDigit_3 (by decide) s0 48 e0 rfl (fun c1 => ?_) (fun c1 => ?_)
  · refine g_iconst F 0 dX10_isDigit_16 (by decide) ?_
    exact u_zret F hA hQ hr rfl () ((Or.inr (⟨rfl, by first | trivial | omega⟩))) rfl rfl dX10_isDigit_17
  · refine g_iload_n F 0 dX10_isDigit_6 rfl rfl ?_
    refine g_bipush F 57 dX10_isDigit_7 (by decide) ?_
    refine v_icmp_gt F 16 dX10_isDigit_9 (by decide) s0 57 e0 rfl (fun c2 => ?_) (fun c2 => ?_)
    · refine g_iconst F 0 dX10_isDigit_16 (by decide) ?_
      exact u_zret F hA hQ hr rfl () ((Or.inr (⟨rfl, by first | trivial | omega⟩))) rfl rfl dX10_isDigit_17
    · refine g_iconst F 1 dX10_isDigit_12 (by decide) ?_
      refine g_goto F 17 dX10_isDigit_13 (by decide) ?_
      exact u_zret F hA hQ hr rfl () ((Or.inl (⟨rfl, by first | trivial | omega⟩))) rfl rfl dX10_isDigit_17

theorem dX10_rewind_0 : decode cX10_rewind 0 = .ok (.aload_n 0, 1) := by decide +kernel
theorem dX10_rewind_1 : decode cX10_rewind 1 = .ok (.iconst 0, 1) := by decide +kernel
theorem dX10_rewind_2 : decode cX10_rewind 2 = .ok (.putfield 17, 3) := by decide +kernel
theorem dX10_rewind_5 : decode cX10_rewind 5 = .ok (.return_, 1) := by decide +kernel
set_option maxHeartbeats 4000000 in
set_option maxRecDepth 100000 in
theorem S_X10_rewind (l : Launch) (D : va_G) (K : Nat → ClassId) (a : Nat → Nat) (G : gS) (hI : xI G) (sz : Nat) : Kv l yX10_rewind wsX10_rewind 1 40 0 0 D [.ref (a 1)] (xW K a G) (tK K) sz (fun (G' : gS) => (xI G') ∧ (gu_un xcd [103] G G') ∧ (((G' 1 2).toInt = 0))) (fun (G' : gS) => (xW K a G')) (fun _ => (tK K)) := by
  unfold Kv
  refine g_ofW (cc := cX10_rewind) (lv := [(0, .ref (a 1))]) (by decide) rfl (Nat.le_of_ble_eq_true rfl) rfl ?_
  intro p e s m args below meth c A Q hA hQ F hr hnm
  have hts := F.2.2.2.2.1
  have w_0 : (Cond.fieldLink RX10 17 "QuietCut$Tape" "at" "I").before args s = true := hts _ (List.mem_of_getElem? (i := 1) rfl)
  have i_X10 : ∀ w ∈ u_ws RX10 TX10 6, w ∈ wsX10_rewind := fun _ h => List.mem_cons_of_mem _ (List.mem_append_right _ h)
  refine g_aload_n F 0 dX10_rewind_0 rfl rfl ?_
  refine g_iconst F 0 dX10_rewind_1 (by decide) ?_
  refine xp_1_2 F i_X10 w_0 dX10_rewind_2 ?_
  exact u_vret F hA hQ hr (gu_up G 1 2 0) (⟨(gu_I.up (j := 1) (k := 2) (v := 0) hI (show (0 : Int) ≤ (0 : Int32).toInt by decide) (show (0 : Int32).toInt ≤ 1000 by decide)), (gu_un.up (j := 1) (k := 2) (v := 0) gu_un.rf (show (103 : Nat) ∈ ([103] : List Nat) by decide)), (by show (((gu_up G 1 2 0) 1 2).toInt = 0); have e9_1_2 : (gu_up G 1 2 0) 1 2 = 0 := rfl; (try simp only [e9_1_2, true_and, and_true]) <;> (first | omega | (simp only [Int32.reduceToInt, true_and, and_true, ne_eq, not_true_eq_false, false_and, or_false, false_or, true_or, or_true, false_implies] <;> omega)))⟩) rfl rfl dX10_rewind_5

theorem dX10_isSign_0 : decode cX10_isSign 0 = .ok (.aload_n 0, 1) := by decide +kernel
theorem dX10_isSign_1 : decode cX10_isSign 1 = .ok (.getfield 34, 3) := by decide +kernel
theorem dX10_isSign_4 : decode cX10_isSign 4 = .ok (.iconst 3, 1) := by decide +kernel
theorem dX10_isSign_5 : decode cX10_isSign 5 = .ok (.if_icmp .ne 15, 3) := by decide +kernel
theorem dX10_isSign_8 : decode cX10_isSign 8 = .ok (.aload_n 0, 1) := by decide +kernel
theorem dX10_isSign_9 : decode cX10_isSign 9 = .ok (.getfield 31, 3) := by decide +kernel
theorem dX10_isSign_12 : decode cX10_isSign 12 = .ok (.iload_n 1, 1) := by decide +kernel
theorem dX10_isSign_13 : decode cX10_isSign 13 = .ok (.if_icmp .ne 7, 3) := by decide +kernel
theorem dX10_isSign_16 : decode cX10_isSign 16 = .ok (.iconst 1, 1) := by decide +kernel
theorem dX10_isSign_17 : decode cX10_isSign 17 = .ok (.goto 4, 3) := by decide +kernel
theorem dX10_isSign_20 : decode cX10_isSign 20 = .ok (.iconst 0, 1) := by decide +kernel
theorem dX10_isSign_21 : decode cX10_isSign 21 = .ok (.ireturn, 1) := by decide +kernel
set_option maxHeartbeats 4000000 in
set_option maxRecDepth 100000 in
theorem S_X10_isSign (l : Launch) (D : va_G) (K : Nat → ClassId) (a : Nat → Nat) (G : gS) (p0 : Int32) (s0 : Int) (e0 : p0.toInt = s0) (hI : xI G) (sz : Nat) : Ki l yX10_isSign wsX10_isSign 1 40 0 0 D [.ref (a 1), .int p0] (xW K a G) (tK K) sz (fun (r : Int32) (_ : Unit) => ((r = 1 ∧ ((G 1 3).toInt = 3 ∧ (G 1 5).toInt = s0)) ∨ (r = 0 ∧ ((G 1 3).toInt ≠ 3 ∨ (G 1 5).toInt ≠ s0)))) (fun (_ : Unit) => (xW K a G)) (fun _ => (tK K)) := by
  unfold Ki
  refine g_ofW (cc := cX10_isSign) (lv := [(0, .ref (a 1)), (1, .int p0)]) (by decide) rfl (Nat.le_of_ble_eq_true rfl) rfl ?_
  intro p e s m args below meth c A Q hA hQ F hr hnm
  have hts := F.2.2.2.2.1
  have w_0 : (Cond.fieldLink RX10 34 "QuietCut$Tape" "kind" "I").before args s = true := hts _ (List.mem_of_getElem? (i := 1) rfl)
  have i_X10 : ∀ w ∈ u_ws RX10 TX10 6, w ∈ wsX10_isSign := fun _ h => List.mem_cons_of_mem _ (List.mem_append_right _ h)
  have w_1 : (Cond.fieldLink RX10 31 "QuietCut$Tape" "value" "I").before args s = true := hts _ (List.mem_of_getElem? (i := 2) rfl)
  refine g_aload_n F 0 dX10_isSign_0 rfl rfl ?_
  refine xg_1_3 F i_X10 w_0 dX10_isSign_1 (G 1 3) (rfl) ?_
  refine g_iconst F 3 dX10_isSign_4 (by decide) ?_
  have b1 : (0 : Int) ≤ (G 1 3).toInt ∧ (G 1 3).toInt ≤ 4 := hI 1 3
  refine v_icmp_ne F 20 dX10_isSign_5 (by decide) (G 1 3).toInt 3 rfl rfl (fun c2 => ?_) (fun c2 => ?_)
  · refine g_iconst F 0 dX10_isSign_20 (by decide) ?_
    exact u_zret F hA hQ hr rfl () ((Or.inr (⟨rfl, by first | trivial | omega⟩))) rfl rfl dX10_isSign_21
  · refine g_aload_n F 0 dX10_isSign_8 rfl rfl ?_
    refine xg_1_5 F i_X10 w_1 dX10_isSign_9 (G 1 5) (rfl) ?_
    refine g_iload_n F 1 dX10_isSign_12 rfl rfl ?_
    have b3 := ti_rng (G 1 5)
    refine v_icmp_ne F 20 dX10_isSign_13 (by decide) (G 1 5).toInt s0 rfl e0 (fun c4 => ?_) (fun c4 => ?_)
    · refine g_iconst F 0 dX10_isSign_20 (by decide) ?_
      exact u_zret F hA hQ hr rfl () ((Or.inr (⟨rfl, by first | trivial | omega⟩))) rfl rfl dX10_isSign_21
    · refine g_iconst F 1 dX10_isSign_16 (by decide) ?_
      refine g_goto F 21 dX10_isSign_17 (by decide) ?_
      exact u_zret F hA hQ hr rfl () ((Or.inl (⟨rfl, by first | trivial | omega⟩))) rfl rfl dX10_isSign_21

theorem dX10_add_0 : decode cX10_add 0 = .ok (.bipush 24, 2) := by decide +kernel
theorem dX10_add_2 : decode cX10_add 2 = .ok (.istore_n 2, 1) := by decide +kernel
theorem dX10_add_3 : decode cX10_add 3 = .ok (.iload_n 2, 1) := by decide +kernel
theorem dX10_add_4 : decode cX10_add 4 = .ok (.ifCond .lt 42, 3) := by decide +kernel
theorem dX10_add_7 : decode cX10_add 7 = .ok (.aload_n 0, 1) := by decide +kernel
theorem dX10_add_8 : decode cX10_add 8 = .ok (.getfield 13, 3) := by decide +kernel
theorem dX10_add_11 : decode cX10_add 11 = .ok (.sipush 1000, 3) := by decide +kernel
theorem dX10_add_14 : decode cX10_add 14 = .ok (.if_icmp .ge 32, 3) := by decide +kernel
theorem dX10_add_17 : decode cX10_add 17 = .ok (.aload_n 0, 1) := by decide +kernel
theorem dX10_add_18 : decode cX10_add 18 = .ok (.getfield 9, 3) := by decide +kernel
theorem dX10_add_21 : decode cX10_add 21 = .ok (.aload_n 0, 1) := by decide +kernel
theorem dX10_add_22 : decode cX10_add 22 = .ok (.getfield 13, 3) := by decide +kernel
theorem dX10_add_25 : decode cX10_add 25 = .ok (.iload_n 1, 1) := by decide +kernel
theorem dX10_add_26 : decode cX10_add 26 = .ok (.iload_n 2, 1) := by decide +kernel
theorem dX10_add_27 : decode cX10_add 27 = .ok (.ishr, 1) := by decide +kernel
theorem dX10_add_28 : decode cX10_add 28 = .ok (.i2b, 1) := by decide +kernel
theorem dX10_add_29 : decode cX10_add 29 = .ok (.bastore, 1) := by decide +kernel
theorem dX10_add_30 : decode cX10_add 30 = .ok (.aload_n 0, 1) := by decide +kernel
theorem dX10_add_31 : decode cX10_add 31 = .ok (.dup, 1) := by decide +kernel
theorem dX10_add_32 : decode cX10_add 32 = .ok (.getfield 13, 3) := by decide +kernel
theorem dX10_add_35 : decode cX10_add 35 = .ok (.iconst 1, 1) := by decide +kernel
theorem dX10_add_36 : decode cX10_add 36 = .ok (.iadd, 1) := by decide +kernel
theorem dX10_add_37 : decode cX10_add 37 = .ok (.putfield 13, 3) := by decide +kernel
theorem dX10_add_40 : decode cX10_add 40 = .ok (.iinc 2 (-8), 3) := by decide +kernel
theorem dX10_add_43 : decode cX10_add 43 = .ok (.goto (-40), 3) := by decide +kernel
theorem dX10_add_46 : decode cX10_add 46 = .ok (.return_, 1) := by decide +kernel
set_option maxHeartbeats 4000000 in
set_option maxRecDepth 100000 in
theorem S_X10_add (l : Launch) (D : va_G) (K : Nat → ClassId) (a : Nat → Nat) (G : gS) (p0 : Int32) (s0 : Int) (e0 : p0.toInt = s0) (lt : ((G 1 1).toInt ≤ 996)) (hI : xI G) (sz : Nat) : Kv l yX10_add wsX10_add 1 40 0 0 D [.ref (a 1), .int p0] (xW K a G) (tK K) sz (fun (G' : gS) => (xI G') ∧ (gu_un xcd [102, 1700] G G') ∧ (((G' 1 1).toInt = (G 1 1).toInt + 4)) ∧ (tLay (G 17) (G' 17) (G 1 1).toInt p0 4)) (fun (G' : gS) => (xW K a G')) (fun _ => (tK K)) := by
  unfold Kv
  refine g_ofW (cc := cX10_add) (lv := [(0, .ref (a 1)), (1, .int p0)]) (by decide) rfl (Nat.le_of_ble_eq_true rfl) rfl ?_
  intro p e s m args below meth c A Q hA hQ F hr hnm
  have hts := F.2.2.2.2.1
  have w_0 : (Cond.fieldLink RX10 13 "QuietCut$Tape" "length" "I").before args s = true := hts _ (List.mem_of_getElem? (i := 1) rfl)
  have i_X10 : ∀ w ∈ u_ws RX10 TX10 6, w ∈ wsX10_add := fun _ h => List.mem_cons_of_mem _ (List.mem_append_right _ h)
  have w_1 : (Cond.fieldLink RX10 9 "QuietCut$Tape" "bytes" "[B").before args s = true := hts _ (List.mem_of_getElem? (i := 2) rfl)
  have rg0 : -2147483648 ≤ s0 ∧ s0 ≤ 2147483647 := e0 ▸ ti_rng p0
  have b1 : (0 : Int) ≤ (G 1 1).toInt ∧ (G 1 1).toInt ≤ 1000 := hI 1 1
  have J_3 : ∀ (fuel : Nat) (x3_2 : Int32) (Gj3 : gS), (x3_2.toInt + 2147483648).toNat < fuel → ((-8) ≤ x3_2.toInt ∧ x3_2.toInt ≤ 24) → (xI Gj3) → (gu_un xcd [102, 1700] G Gj3) → (8 * (Gj3 1 1).toInt + x3_2.toInt = 8 * (G 1 1).toInt + 24) → (tLay (G 17) (Gj3 17) (G 1 1).toInt p0 ((Gj3 1 1).toInt - (G 1 1).toInt)) → gG p l e (gR 1 0 0 40) s m args below meth c D A 3 Q 0 0 (xW K a Gj3) (tK K) [(0, .ref (a 1)), (1, .int p0), (2, .int x3_2)] 3 [] := by
    intro fuel
    induction fuel with
    | zero => intro x3_2 Gj3 hm; exact absurd hm (Nat.not_lt_zero _)
    | succ fuel_3 ih_3 =>
      intro x3_2 Gj3 hm_3 h3_2 jI3 jU3 hv ly3
      refine g_iload_n F 2 dX10_add_3 rfl rfl ?_
      refine v_if_lt F 46 dX10_add_4 (by decide) x3_2.toInt rfl (fun c2 => ?_) (fun c2 => ?_)
      · have b3 : (0 : Int) ≤ (Gj3 1 1).toInt ∧ (Gj3 1 1).toInt ≤ 1000 := jI3 1 1
        exact u_vret F hA hQ hr Gj3 (⟨jI3, (gu_un.tr gu_un.rf (gu_un.su jU3 rfl)), (by show ((Gj3 1 1).toInt = (G 1 1).toInt + 4); (first | omega | (simp only [Int32.reduceToInt, true_and, and_true, ne_eq, not_true_eq_false, false_and, or_false, false_or, true_or, or_true, false_implies] <;> omega))), (by first | (have h9 := ly3; rw [show (Gj3 1 1).toInt - (G 1 1).toInt = 4 by omega] at h9; exact h9) | (exfalso; omega))⟩) rfl rfl dX10_add_46
      · refine g_aload_n F 0 dX10_add_7 rfl rfl ?_
        refine xg_1_1 F i_X10 w_0 dX10_add_8 (Gj3 1 1) (rfl) ?_
        refine g_sipush F 1000 dX10_add_11 (by decide) ?_
        have b4 : (0 : Int) ≤ (Gj3 1 1).toInt ∧ (Gj3 1 1).toInt ≤ 1000 := jI3 1 1
        refine v_icmp_ge F 46 dX10_add_14 (by decide) (Gj3 1 1).toInt 1000 rfl rfl (fun c5 => ?_) (fun c5 => ?_)
        · exact u_vret F hA hQ hr Gj3 (⟨jI3, (gu_un.tr gu_un.rf (gu_un.su jU3 rfl)), (by show ((Gj3 1 1).toInt = (G 1 1).toInt + 4); (first | omega | (simp only [Int32.reduceToInt, true_and, and_true, ne_eq, not_true_eq_false, false_and, or_false, false_or, true_or, or_true, false_implies] <;> omega))), (by first | (have h9 := ly3; rw [show (Gj3 1 1).toInt - (G 1 1).toInt = 4 by omega] at h9; exact h9) | (exfalso; omega))⟩) rfl rfl dX10_add_46
        · refine g_aload_n F 0 dX10_add_17 rfl rfl ?_
          refine xg_1_0 F i_X10 w_1 dX10_add_18 ?_
          refine g_aload_n F 0 dX10_add_21 rfl rfl ?_
          refine xg_1_1 F i_X10 w_0 dX10_add_22 (Gj3 1 1) (rfl) ?_
          refine g_iload_n F 1 dX10_add_25 rfl rfl ?_
          refine g_iload_n F 2 dX10_add_26 rfl rfl ?_
          refine g_ishr F dX10_add_27 ?_
          refine g_i2b F dX10_add_28 ?_
          refine u_bast F 17 2 xc_17 rfl (Gj3 1 1).toInt rfl (by omega) (by omega) (xW K a (gu_up Gj3 17 ((Gj3 1 1).toInt).toNat (vp_nar .byte (Int32.toInt8 (p0 >>> (x3_2 &&& 31))).toInt32))) (xs_17 _) dX10_add_29 ?_
          refine g_aload_n F 0 dX10_add_30 rfl rfl ?_
          refine g_dup F dX10_add_31 rfl ?_
          refine xg_1_1 F i_X10 w_0 dX10_add_32 (Gj3 1 1) (rfl) ?_
          refine g_iconst F 1 dX10_add_35 (by decide) ?_
          refine u_iadd F dX10_add_36 (Gj3 1 1).toInt 1 rfl rfl (by omega) (by omega) (fun y6 ey6 => ?_)
          refine xp_1_1 F i_X10 w_0 dX10_add_37 ?_
          refine u_iinc F (fun v_ => [(2, .int v_), (0, .ref (a 1)), (1, .int p0)]) dX10_add_40 (j := 2) rfl x3_2.toInt (-8) rfl rfl (by omega) (by omega) (by decide) (fun _ => rfl) (fun y7 ey7 => ?_)
          refine g_goto F 3 dX10_add_43 (by decide) ?_
          refine g_locals [(0, .ref (a 1)), (1, .int p0), (2, .int y7)] [1, 2, 0] rfl ?_
          exact ih_3 y7 (gu_up (gu_up Gj3 17 ((Gj3 1 1).toInt).toNat (vp_nar .byte (Int32.toInt8 (p0 >>> (x3_2 &&& 31))).toInt32)) 1 1 y6) (by omega) (by have h9 := ti_rng y7; omega) (gu_I.up (j := 1) (k := 1) (v := y6) (gu_I.up (j := 17) (k := ((Gj3 1 1).toInt).toNat) (v := (vp_nar .byte (Int32.toInt8 (p0 >>> (x3_2 &&& 31))).toInt32)) jI3 ((vp_narB _).1) ((vp_narB _).2)) (show (0 : Int) ≤ Int32.toInt y6 by omega) (show Int32.toInt y6 ≤ 1000 by omega)) (gu_un.up (j := 1) (k := 1) (v := y6) (gu_un.up (j := 17) (k := ((Gj3 1 1).toInt).toNat) (v := (vp_nar .byte (Int32.toInt8 (p0 >>> (x3_2 &&& 31))).toInt32)) (gu_un.tr gu_un.rf (gu_un.su jU3 rfl)) (show (1700 : Nat) ∈ ([102, 1700] : List Nat) by decide)) (show (102 : Nat) ∈ ([102, 1700] : List Nat) by decide)) (by have e9_1_1 : (gu_up (gu_up Gj3 17 ((Gj3 1 1).toInt).toNat (vp_nar .byte (Int32.toInt8 (p0 >>> (x3_2 &&& 31))).toInt32)) 1 1 y6) 1 1 = y6 := rfl; (try simp only [e9_1_1, true_and, and_true]) <;> (first | omega | (simp only [Int32.reduceToInt, true_and, and_true, ne_eq, not_true_eq_false, false_and, or_false, false_or, true_or, or_true, false_implies] <;> omega))) (show tLay (G 17) ((gu_up Gj3 17 ((Gj3 1 1).toInt).toNat (vp_nar .byte (Int32.toInt8 (p0 >>> (x3_2 &&& 31))).toInt32)) 17) (G 1 1).toInt p0 (y6.toInt - (G 1 1).toInt) from tLay.step ly3 (by omega) (by omega) (by omega) (by omega) (by omega))
  refine g_bipush F 24 dX10_add_0 (by decide) ?_
  refine g_istore_n F [(2, .int 24), (0, .ref (a 1)), (1, .int p0)] dX10_add_2 rfl (by decide) rfl ?_
  refine g_locals [(0, .ref (a 1)), (1, .int p0), (2, .int 24)] [1, 2, 0] rfl ?_
  exact J_3 _ 24 G (Nat.lt_succ_self _) (by decide) hI gu_un.rf (by (first | omega | (simp only [Int32.reduceToInt, true_and, and_true, ne_eq, not_true_eq_false, false_and, or_false, false_or, true_or, or_true, false_implies] <;> omega))) (tLay.at0 (by omega))

theorem dX11_feed_0 : decode cX11_feed 0 = .ok (.aload_n 0, 1) := by decide +kernel
theorem dX11_feed_1 : decode cX11_feed 1 = .ok (.getfield 12, 3) := by decide +kernel
theorem dX11_feed_4 : decode cX11_feed 4 = .ok (.bipush 20, 2) := by decide +kernel
theorem dX11_feed_6 : decode cX11_feed 6 = .ok (.invokevirtual 93, 3) := by decide +kernel
theorem dX11_feed_9 : decode cX11_feed 9 = .ok (.ifCond .ne 6, 3) := by decide +kernel
theorem dX11_feed_12 : decode cX11_feed 12 = .ok (.bipush (-3), 2) := by decide +kernel
theorem dX11_feed_14 : decode cX11_feed 14 = .ok (.ireturn, 1) := by decide +kernel
theorem dX11_feed_15 : decode cX11_feed 15 = .ok (.aload_n 0, 1) := by decide +kernel
theorem dX11_feed_16 : decode cX11_feed 16 = .ok (.getfield 12, 3) := by decide +kernel
theorem dX11_feed_19 : decode cX11_feed 19 = .ok (.iload_n 1, 1) := by decide +kernel
theorem dX11_feed_20 : decode cX11_feed 20 = .ok (.invokevirtual 97, 3) := by decide +kernel
theorem dX11_feed_23 : decode cX11_feed 23 = .ok (.aload_n 0, 1) := by decide +kernel
theorem dX11_feed_24 : decode cX11_feed 24 = .ok (.getfield 12, 3) := by decide +kernel
theorem dX11_feed_27 : decode cX11_feed 27 = .ok (.iload_n 2, 1) := by decide +kernel
theorem dX11_feed_28 : decode cX11_feed 28 = .ok (.invokevirtual 97, 3) := by decide +kernel
theorem dX11_feed_31 : decode cX11_feed 31 = .ok (.aload_n 0, 1) := by decide +kernel
theorem dX11_feed_32 : decode cX11_feed 32 = .ok (.getfield 12, 3) := by decide +kernel
theorem dX11_feed_35 : decode cX11_feed 35 = .ok (.iload_n 3, 1) := by decide +kernel
theorem dX11_feed_36 : decode cX11_feed 36 = .ok (.invokevirtual 97, 3) := by decide +kernel
theorem dX11_feed_39 : decode cX11_feed 39 = .ok (.aload_n 0, 1) := by decide +kernel
theorem dX11_feed_40 : decode cX11_feed 40 = .ok (.getfield 12, 3) := by decide +kernel
theorem dX11_feed_43 : decode cX11_feed 43 = .ok (.iload 4, 2) := by decide +kernel
theorem dX11_feed_45 : decode cX11_feed 45 = .ok (.invokevirtual 97, 3) := by decide +kernel
theorem dX11_feed_48 : decode cX11_feed 48 = .ok (.aload_n 0, 1) := by decide +kernel
theorem dX11_feed_49 : decode cX11_feed 49 = .ok (.getfield 12, 3) := by decide +kernel
theorem dX11_feed_52 : decode cX11_feed 52 = .ok (.iload 5, 2) := by decide +kernel
theorem dX11_feed_54 : decode cX11_feed 54 = .ok (.invokevirtual 97, 3) := by decide +kernel
theorem dX11_feed_57 : decode cX11_feed 57 = .ok (.aload_n 0, 1) := by decide +kernel
theorem dX11_feed_58 : decode cX11_feed 58 = .ok (.getfield 12, 3) := by decide +kernel
theorem dX11_feed_61 : decode cX11_feed 61 = .ok (.getfield 101, 3) := by decide +kernel
theorem dX11_feed_64 : decode cX11_feed 64 = .ok (.ireturn, 1) := by decide +kernel
set_option maxRecDepth 20000 in
theorem ggX11_feed_X10_add : GoodIn wsX11_feed wsX10_add := goodIn_r _ [12, 8, 13, 28, 29, 30, 31, 32, 33] rfl (by decide +kernel)
set_option maxRecDepth 20000 in
theorem gX11_feed_X10_add : GoodIn wsX11_feed (wsV RX11 97 RX10 yX10_add wsX10_add) := goodIn_app (goodIn_of _ (by decide +kernel)) ggX11_feed_X10_add
set_option maxRecDepth 20000 in
theorem ggX11_feed_X10_hasRoomFor : GoodIn wsX11_feed wsX10_hasRoomFor := goodIn_r _ [7, 8, 28, 29, 30, 31, 32, 33] rfl (by decide +kernel)
set_option maxRecDepth 20000 in
theorem gX11_feed_X10_hasRoomFor : GoodIn wsX11_feed (wsV RX11 93 RX10 yX10_hasRoomFor wsX10_hasRoomFor) := goodIn_app (goodIn_of _ (by decide +kernel)) ggX11_feed_X10_hasRoomFor
set_option maxHeartbeats 4000000 in
set_option maxRecDepth 100000 in
theorem S_X11_feed (l : Launch) (D : va_G) (K : Nat → ClassId) (a : Nat → Nat) (G : gS) (p0 : Int32) (s0 : Int) (p1 : Int32) (s1 : Int) (p2 : Int32) (s2 : Int) (p3 : Int32) (s3 : Int) (p4 : Int32) (s4 : Int) (e0 : p0.toInt = s0) (e1 : p1.toInt = s1) (e2 : p2.toInt = s2) (e3 : p3.toInt = s3) (e4 : p4.toInt = s4) (hI : xI G) (sz : Nat) : Ki l yX11_feed wsX11_feed 2 62 0 0 D [.ref (a 0), .int p0, .int p1, .int p2, .int p3, .int p4] (xW K a G) (tK K) sz (fun (r : Int32) (G' : gS) => (xI G') ∧ (gu_un xcd [102, 1700] G G') ∧ ((-3) ≤ r.toInt ∧ r.toInt ≤ 1000) ∧ (((r.toInt = -3 ∧ 980 < (G 1 1).toInt ∧ (G' 1 1).toInt = (G 1 1).toInt) ∨ (r.toInt = (G 1 1).toInt + 20 ∧ (G 1 1).toInt ≤ 980 ∧ (G' 1 1).toInt = (G 1 1).toInt + 20))) ∧ ((r.toInt = -3 ∧ (∀ i : Nat, (i : Int) < (G 1 1).toInt → G' 17 i = (G 17) i)) ∨ tFd (G 17) (G' 17) (G 1 1).toInt [p0, p1, p2, p3, p4])) (fun (G' : gS) => (xW K a G')) (fun _ => (tK K)) := by
  unfold Ki
  refine g_ofW (cc := cX11_feed) (lv := [(0, .ref (a 0)), (1, .int p0), (2, .int p1), (3, .int p2), (4, .int p3), (5, .int p4)]) (by decide) rfl (Nat.le_of_ble_eq_true rfl) rfl ?_
  intro p e s m args below meth c A Q hA hQ F hr hnm
  have hts := F.2.2.2.2.1
  have w_0 : (Cond.fieldLink RX11 12 "QuietCut" "tape" "LQuietCut$Tape;").before args s = true := hts _ (List.mem_of_getElem? (i := 1) rfl)
  have i_X11 : ∀ w ∈ u_ws RX11 TX11 14, w ∈ wsX11_feed := fun _ h => List.mem_cons_of_mem _ (List.mem_append_left _ (List.mem_append_right _ h))
  have w_1 : (Cond.fieldLink RX11 101 "QuietCut$Tape" "length" "I").before args s = true := hts _ (List.mem_of_getElem? (i := 2) rfl)
  have i_X10 : ∀ w ∈ u_ws RX10 TX10 6, w ∈ wsX11_feed := fun _ h => List.mem_cons_of_mem _ (List.mem_append_right _ h)
  have rg0 : -2147483648 ≤ s0 ∧ s0 ≤ 2147483647 := e0 ▸ ti_rng p0
  have rg1 : -2147483648 ≤ s1 ∧ s1 ≤ 2147483647 := e1 ▸ ti_rng p1
  have rg2 : -2147483648 ≤ s2 ∧ s2 ≤ 2147483647 := e2 ▸ ti_rng p2
  have rg3 : -2147483648 ≤ s3 ∧ s3 ≤ 2147483647 := e3 ▸ ti_rng p3
  have rg4 : -2147483648 ≤ s4 ∧ s4 ≤ 2147483647 := e4 ▸ ti_rng p4
  refine g_aload_n F 0 dX11_feed_0 rfl rfl ?_
  refine xg_0_0 F i_X11 w_0 dX11_feed_1 ?_
  refine g_bipush F 20 dX11_feed_4 (by decide) ?_
  refine u_callVi (k := 0) (n := 0) (b := a 1) (As := [.int 20]) (st := []) F (fun sz => S_X10_hasRoomFor l D K a G 20 20 rfl (by decide) hI sz) (cwV 1 hts gX11_feed_X10_hasRoomFor rfl rfl rfl (by decide +kernel) ⟨Nat.le_of_ble_eq_true rfl, Nat.le_of_ble_eq_true rfl⟩) rfl 1 xc_1 rfl (Nat.le_of_ble_eq_true rfl) ⟨Nat.zero_le _, Nat.zero_le _⟩ dX11_feed_6 (fun r1 _ hw2 => ?_)
  rcases hw2 with ⟨rfl, q4⟩ | ⟨rfl, q5⟩
  · have b6 : (0 : Int) ≤ (G 1 1).toInt ∧ (G 1 1).toInt ≤ 1000 := hI 1 1
    have q4 : ((G 1 1).toInt + (20 : Int) ≤ 1000) := q4
    refine v_if_ne F 15 dX11_feed_9 (by decide) 1 rfl (fun c7 => ?_) (fun c7 => absurd c7 (by decide))
    refine g_aload_n F 0 dX11_feed_15 rfl rfl ?_
    refine xg_0_0 F i_X11 w_0 dX11_feed_16 ?_
    refine g_iload_n F 1 dX11_feed_19 rfl rfl ?_
    refine u_callVv (k := 0) (n := 0) (b := a 1) (As := [.int p0]) (st := []) F (fun sz => S_X10_add l D K a G p0 s0 e0 (by (first | omega | (simp only [Int32.reduceToInt, true_and, and_true, ne_eq, not_true_eq_false, false_and, or_false, false_or, true_or, or_true, false_implies] <;> omega))) hI sz) (cwV 1 hts gX11_feed_X10_add rfl rfl rfl (by decide +kernel) ⟨Nat.le_of_ble_eq_true rfl, Nat.le_of_ble_eq_true rfl⟩) rfl 1 xc_1 rfl (Nat.le_of_ble_eq_true rfl) ⟨Nat.zero_le _, Nat.zero_le _⟩ dX11_feed_20 (fun G10 hw9 => ?_)
    have hI11 : xI G10 := hw9.1
    have hU12 : gu_un xcd [102, 1700] G G10 := hw9.2.1
    have hp13 := hw9.2.2
    have b14 : (0 : Int) ≤ (G10 1 1).toInt ∧ (G10 1 1).toInt ≤ 1000 := hI11 1 1
    have q15 : ((G10 1 1).toInt = (G 1 1).toInt + 4) := hp13.1
    have q16 : tLay (G 17) (G10 17) (G 1 1).toInt p0 4 := hp13.2
    clear hp13 hw9
    refine g_aload_n F 0 dX11_feed_23 rfl rfl ?_
    refine xg_0_0 F i_X11 w_0 dX11_feed_24 ?_
    refine g_iload_n F 2 dX11_feed_27 rfl rfl ?_
    refine u_callVv (k := 0) (n := 0) (b := a 1) (As := [.int p1]) (st := []) F (fun sz => S_X10_add l D K a G10 p1 s1 e1 (by (first | omega | (simp only [Int32.reduceToInt, true_and, and_true, ne_eq, not_true_eq_false, false_and, or_false, false_or, true_or, or_true, false_implies] <;> omega))) hI11 sz) (cwV 1 hts gX11_feed_X10_add rfl rfl rfl (by decide +kernel) ⟨Nat.le_of_ble_eq_true rfl, Nat.le_of_ble_eq_true rfl⟩) rfl 1 xc_1 rfl (Nat.le_of_ble_eq_true rfl) ⟨Nat.zero_le _, Nat.zero_le _⟩ dX11_feed_28 (fun G19 hw18 => ?_)
    have hI20 : xI G19 := hw18.1
    have hU21 : gu_un xcd [102, 1700] G10 G19 := hw18.2.1
    have hp22 := hw18.2.2
    have b23 : (0 : Int) ≤ (G19 1 1).toInt ∧ (G19 1 1).toInt ≤ 1000 := hI20 1 1
    have q24 : ((G19 1 1).toInt = (G10 1 1).toInt + 4) := hp22.1
    have q25 : tLay (G10 17) (G19 17) (G10 1 1).toInt p1 4 := hp22.2
    clear hp22 hw18
    refine g_aload_n F 0 dX11_feed_31 rfl rfl ?_
    refine xg_0_0 F i_X11 w_0 dX11_feed_32 ?_
    refine g_iload_n F 3 dX11_feed_35 rfl rfl ?_
    refine u_callVv (k := 0) (n := 0) (b := a 1) (As := [.int p2]) (st := []) F (fun sz => S_X10_add l D K a G19 p2 s2 e2 (by (first | omega | (simp only [Int32.reduceToInt, true_and, and_true, ne_eq, not_true_eq_false, false_and, or_false, false_or, true_or, or_true, false_implies] <;> omega))) hI20 sz) (cwV 1 hts gX11_feed_X10_add rfl rfl rfl (by decide +kernel) ⟨Nat.le_of_ble_eq_true rfl, Nat.le_of_ble_eq_true rfl⟩) rfl 1 xc_1 rfl (Nat.le_of_ble_eq_true rfl) ⟨Nat.zero_le _, Nat.zero_le _⟩ dX11_feed_36 (fun G28 hw27 => ?_)
    have hI29 : xI G28 := hw27.1
    have hU30 : gu_un xcd [102, 1700] G19 G28 := hw27.2.1
    have hp31 := hw27.2.2
    have b32 : (0 : Int) ≤ (G28 1 1).toInt ∧ (G28 1 1).toInt ≤ 1000 := hI29 1 1
    have q33 : ((G28 1 1).toInt = (G19 1 1).toInt + 4) := hp31.1
    have q34 : tLay (G19 17) (G28 17) (G19 1 1).toInt p2 4 := hp31.2
    clear hp31 hw27
    refine g_aload_n F 0 dX11_feed_39 rfl rfl ?_
    refine xg_0_0 F i_X11 w_0 dX11_feed_40 ?_
    refine g_iload F 4 dX11_feed_43 rfl ?_
    refine u_callVv (k := 0) (n := 0) (b := a 1) (As := [.int p3]) (st := []) F (fun sz => S_X10_add l D K a G28 p3 s3 e3 (by (first | omega | (simp only [Int32.reduceToInt, true_and, and_true, ne_eq, not_true_eq_false, false_and, or_false, false_or, true_or, or_true, false_implies] <;> omega))) hI29 sz) (cwV 1 hts gX11_feed_X10_add rfl rfl rfl (by decide +kernel) ⟨Nat.le_of_ble_eq_true rfl, Nat.le_of_ble_eq_true rfl⟩) rfl 1 xc_1 rfl (Nat.le_of_ble_eq_true rfl) ⟨Nat.zero_le _, Nat.zero_le _⟩ dX11_feed_45 (fun G37 hw36 => ?_)
    have hI38 : xI G37 := hw36.1
    have hU39 : gu_un xcd [102, 1700] G28 G37 := hw36.2.1
    have hp40 := hw36.2.2
    have b41 : (0 : Int) ≤ (G37 1 1).toInt ∧ (G37 1 1).toInt ≤ 1000 := hI38 1 1
    have q42 : ((G37 1 1).toInt = (G28 1 1).toInt + 4) := hp40.1
    have q43 : tLay (G28 17) (G37 17) (G28 1 1).toInt p3 4 := hp40.2
    clear hp40 hw36
    refine g_aload_n F 0 dX11_feed_48 rfl rfl ?_
    refine xg_0_0 F i_X11 w_0 dX11_feed_49 ?_
    refine g_iload F 5 dX11_feed_52 rfl ?_
    refine u_callVv (k := 0) (n := 0) (b := a 1) (As := [.int p4]) (st := []) F (fun sz => S_X10_add l D K a G37 p4 s4 e4 (by (first | omega | (simp only [Int32.reduceToInt, true_and, and_true, ne_eq, not_true_eq_false, false_and, or_false, false_or, true_or, or_true, false_implies] <;> omega))) hI38 sz) (cwV 1 hts gX11_feed_X10_add rfl rfl rfl (by decide +kernel) ⟨Nat.le_of_ble_eq_true rfl, Nat.le_of_ble_eq_true rfl⟩) rfl 1 xc_1 rfl (Nat.le_of_ble_eq_true rfl) ⟨Nat.zero_le _, Nat.zero_le _⟩ dX11_feed_54 (fun G46 hw45 => ?_)
    have hI47 : xI G46 := hw45.1
    have hU48 : gu_un xcd [102, 1700] G37 G46 := hw45.2.1
    have hp49 := hw45.2.2
    have b50 : (0 : Int) ≤ (G46 1 1).toInt ∧ (G46 1 1).toInt ≤ 1000 := hI47 1 1
    have q51 : ((G46 1 1).toInt = (G37 1 1).toInt + 4) := hp49.1
    have q52 : tLay (G37 17) (G46 17) (G37 1 1).toInt p4 4 := hp49.2
    clear hp49 hw45
    refine g_aload_n F 0 dX11_feed_57 rfl rfl ?_
    refine xg_0_0 F i_X11 w_0 dX11_feed_58 ?_
    refine xg_1_1 F i_X10 w_1 dX11_feed_61 (G46 1 1) (rfl) ?_
    exact u_iret F hA hQ hr G46 (⟨hI47, (gu_un.tr (gu_un.tr (gu_un.tr (gu_un.tr (gu_un.tr gu_un.rf (gu_un.su hU12 rfl)) (gu_un.su hU21 rfl)) (gu_un.su hU30 rfl)) (gu_un.su hU39 rfl)) (gu_un.su hU48 rfl)), (by have h9 := ti_rng (G46 1 1); omega), (by show (((G46 1 1).toInt = -3 ∧ 980 < (G 1 1).toInt ∧ (G46 1 1).toInt = (G 1 1).toInt) ∨ ((G46 1 1).toInt = (G 1 1).toInt + 20 ∧ (G 1 1).toInt ≤ 980 ∧ (G46 1 1).toInt = (G 1 1).toInt + 20)); (first | omega | (simp only [Int32.reduceToInt, true_and, and_true, ne_eq, not_true_eq_false, false_and, or_false, false_or, true_or, or_true, false_implies] <;> omega))), (Or.inr ⟨_, q16.cast (by omega), _, q25.cast (by omega), _, q34.cast (by omega), _, q43.cast (by omega), _, q52.cast (by omega), rfl⟩)⟩) rfl rfl dX11_feed_64
  · have b53 : (0 : Int) ≤ (G 1 1).toInt ∧ (G 1 1).toInt ≤ 1000 := hI 1 1
    have q5 : (1000 < (G 1 1).toInt + (20 : Int)) := q5
    refine v_if_ne F 15 dX11_feed_9 (by decide) 0 rfl (fun c54 => absurd c54 (by decide)) (fun c54 => ?_)
    refine g_bipush F (-3) dX11_feed_12 (by decide) ?_
    exact u_iret F hA hQ hr G (⟨hI, gu_un.rf, (by decide), (by show (((-3) = -3 ∧ 980 < (G 1 1).toInt ∧ (G 1 1).toInt = (G 1 1).toInt) ∨ ((-3) = (G 1 1).toInt + 20 ∧ (G 1 1).toInt ≤ 980 ∧ (G 1 1).toInt = (G 1 1).toInt + 20)); (first | omega | (simp only [Int32.reduceToInt, true_and, and_true, ne_eq, not_true_eq_false, false_and, or_false, false_or, true_or, or_true, false_implies] <;> omega))), (Or.inl ⟨by decide, fun _ _ => rfl⟩)⟩) rfl rfl dX11_feed_14

theorem dX11_end_0 : decode cX11_end 0 = .ok (.iload_n 1, 1) := by decide +kernel
theorem dX11_end_1 : decode cX11_end 1 = .ok (.ifCond .lt 14, 3) := by decide +kernel
theorem dX11_end_4 : decode cX11_end 4 = .ok (.iload_n 1, 1) := by decide +kernel
theorem dX11_end_5 : decode cX11_end 5 = .ok (.aload_n 0, 1) := by decide +kernel
theorem dX11_end_6 : decode cX11_end 6 = .ok (.getfield 12, 3) := by decide +kernel
theorem dX11_end_9 : decode cX11_end 9 = .ok (.getfield 101, 3) := by decide +kernel
theorem dX11_end_12 : decode cX11_end 12 = .ok (.if_icmp .le 5, 3) := by decide +kernel
theorem dX11_end_15 : decode cX11_end 15 = .ok (.iconst (-1), 1) := by decide +kernel
theorem dX11_end_16 : decode cX11_end 16 = .ok (.ireturn, 1) := by decide +kernel
theorem dX11_end_17 : decode cX11_end 17 = .ok (.aload_n 0, 1) := by decide +kernel
theorem dX11_end_18 : decode cX11_end 18 = .ok (.getfield 12, 3) := by decide +kernel
theorem dX11_end_21 : decode cX11_end 21 = .ok (.iload_n 1, 1) := by decide +kernel
theorem dX11_end_22 : decode cX11_end 22 = .ok (.putfield 101, 3) := by decide +kernel
theorem dX11_end_25 : decode cX11_end 25 = .ok (.iload_n 1, 1) := by decide +kernel
theorem dX11_end_26 : decode cX11_end 26 = .ok (.ireturn, 1) := by decide +kernel
set_option maxHeartbeats 4000000 in
set_option maxRecDepth 100000 in
theorem S_X11_end (l : Launch) (D : va_G) (K : Nat → ClassId) (a : Nat → Nat) (G : gS) (p0 : Int32) (s0 : Int) (e0 : p0.toInt = s0) (hI : xI G) (sz : Nat) : Ki l yX11_end wsX11_end 1 40 0 0 D [.ref (a 0), .int p0] (xW K a G) (tK K) sz (fun (r : Int32) (G' : gS) => (xI G') ∧ (gu_un xcd [102] G G') ∧ ((-1) ≤ r.toInt ∧ r.toInt ≤ 1000) ∧ (((r.toInt = -1 ∧ (s0 < 0 ∨ (G 1 1).toInt < s0) ∧ (G' 1 1).toInt = (G 1 1).toInt) ∨ (r.toInt = s0 ∧ 0 ≤ s0 ∧ s0 ≤ (G 1 1).toInt ∧ (G' 1 1).toInt = s0)))) (fun (G' : gS) => (xW K a G')) (fun _ => (tK K)) := by
  unfold Ki
  refine g_ofW (cc := cX11_end) (lv := [(0, .ref (a 0)), (1, .int p0)]) (by decide) rfl (Nat.le_of_ble_eq_true rfl) rfl ?_
  intro p e s m args below meth c A Q hA hQ F hr hnm
  have hts := F.2.2.2.2.1
  have w_0 : (Cond.fieldLink RX11 12 "QuietCut" "tape" "LQuietCut$Tape;").before args s = true := hts _ (List.mem_of_getElem? (i := 1) rfl)
  have i_X11 : ∀ w ∈ u_ws RX11 TX11 14, w ∈ wsX11_end := fun _ h => List.mem_cons_of_mem _ (List.mem_append_left _ (List.mem_append_right _ h))
  have w_1 : (Cond.fieldLink RX11 101 "QuietCut$Tape" "length" "I").before args s = true := hts _ (List.mem_of_getElem? (i := 2) rfl)
  have i_X10 : ∀ w ∈ u_ws RX10 TX10 6, w ∈ wsX11_end := fun _ h => List.mem_cons_of_mem _ (List.mem_append_right _ h)
  have rg0 : -2147483648 ≤ s0 ∧ s0 ≤ 2147483647 := e0 ▸ ti_rng p0
  refine g_iload_n F 1 dX11_end_0 rfl rfl ?_
  refine v_if_lt F 15 dX11_end_1 (by decide) s0 e0 (fun c1 => ?_) (fun c1 => ?_)
  · refine g_iconst F (-1) dX11_end_15 (by decide) ?_
    have b2 : (0 : Int) ≤ (G 1 1).toInt ∧ (G 1 1).toInt ≤ 1000 := hI 1 1
    exact u_iret F hA hQ hr G (⟨hI, gu_un.rf, (by decide), (by show (((-1) = -1 ∧ (s0 < 0 ∨ (G 1 1).toInt < s0) ∧ (G 1 1).toInt = (G 1 1).toInt) ∨ ((-1) = s0 ∧ 0 ≤ s0 ∧ s0 ≤ (G 1 1).toInt ∧ (G 1 1).toInt = s0)); (first | omega | (simp only [Int32.reduceToInt, true_and, and_true, ne_eq, not_true_eq_false, false_and, or_false, false_or, true_or, or_true, false_implies] <;> omega)))⟩) rfl rfl dX11_end_16
  · refine g_iload_n F 1 dX11_end_4 rfl rfl ?_
    refine g_aload_n F 0 dX11_end_5 rfl rfl ?_
    refine xg_0_0 F i_X11 w_0 dX11_end_6 ?_
    refine xg_1_1 F i_X10 w_1 dX11_end_9 (G 1 1) (rfl) ?_
    have b3 : (0 : Int) ≤ (G 1 1).toInt ∧ (G 1 1).toInt ≤ 1000 := hI 1 1
    refine v_icmp_le F 17 dX11_end_12 (by decide) s0 (G 1 1).toInt e0 rfl (fun c4 => ?_) (fun c4 => ?_)
    · refine g_aload_n F 0 dX11_end_17 rfl rfl ?_
      refine xg_0_0 F i_X11 w_0 dX11_end_18 ?_
      refine g_iload_n F 1 dX11_end_21 rfl rfl ?_
      refine xp_1_1 F i_X10 w_1 dX11_end_22 ?_
      refine g_iload_n F 1 dX11_end_25 rfl rfl ?_
      exact u_iret F hA hQ hr (gu_up G 1 1 p0) (⟨(gu_I.up (j := 1) (k := 1) (v := p0) hI (show (0 : Int) ≤ Int32.toInt p0 by omega) (show Int32.toInt p0 ≤ 1000 by omega)), (gu_un.up (j := 1) (k := 1) (v := p0) gu_un.rf (show (102 : Nat) ∈ ([102] : List Nat) by decide)), (by have h9 := ti_rng p0; omega), (by rw [e0]; show ((s0 = -1 ∧ (s0 < 0 ∨ (G 1 1).toInt < s0) ∧ ((gu_up G 1 1 p0) 1 1).toInt = (G 1 1).toInt) ∨ (s0 = s0 ∧ 0 ≤ s0 ∧ s0 ≤ (G 1 1).toInt ∧ ((gu_up G 1 1 p0) 1 1).toInt = s0)); have e9_1_1 : (gu_up G 1 1 p0) 1 1 = p0 := rfl; (try simp only [e9_1_1, true_and, and_true]) <;> (first | omega | (simp only [Int32.reduceToInt, true_and, and_true, ne_eq, not_true_eq_false, false_and, or_false, false_or, true_or, or_true, false_implies] <;> omega)))⟩) rfl rfl dX11_end_26
    · refine g_iconst F (-1) dX11_end_15 (by decide) ?_
      exact u_iret F hA hQ hr G (⟨hI, gu_un.rf, (by decide), (by show (((-1) = -1 ∧ (s0 < 0 ∨ (G 1 1).toInt < s0) ∧ (G 1 1).toInt = (G 1 1).toInt) ∨ ((-1) = s0 ∧ 0 ≤ s0 ∧ s0 ≤ (G 1 1).toInt ∧ (G 1 1).toInt = s0)); (first | omega | (simp only [Int32.reduceToInt, true_and, and_true, ne_eq, not_true_eq_false, false_and, or_false, false_or, true_or, or_true, false_implies] <;> omega)))⟩) rfl rfl dX11_end_16

theorem dX11_fault_0 : decode cX11_fault 0 = .ok (.iload_n 1, 1) := by decide +kernel
theorem dX11_fault_1 : decode cX11_fault 1 = .ok (.ifCond .ne 8, 3) := by decide +kernel
theorem dX11_fault_4 : decode cX11_fault 4 = .ok (.aload_n 0, 1) := by decide +kernel
theorem dX11_fault_5 : decode cX11_fault 5 = .ok (.getfield 111, 3) := by decide +kernel
theorem dX11_fault_8 : decode cX11_fault 8 = .ok (.ireturn, 1) := by decide +kernel
theorem dX11_fault_9 : decode cX11_fault 9 = .ok (.iload_n 1, 1) := by decide +kernel
theorem dX11_fault_10 : decode cX11_fault 10 = .ok (.iconst 1, 1) := by decide +kernel
theorem dX11_fault_11 : decode cX11_fault 11 = .ok (.if_icmp .ne 10, 3) := by decide +kernel
theorem dX11_fault_14 : decode cX11_fault 14 = .ok (.aload_n 0, 1) := by decide +kernel
theorem dX11_fault_15 : decode cX11_fault 15 = .ok (.getfield 89, 3) := by decide +kernel
theorem dX11_fault_18 : decode cX11_fault 18 = .ok (.goto 4, 3) := by decide +kernel
theorem dX11_fault_21 : decode cX11_fault 21 = .ok (.iconst (-1), 1) := by decide +kernel
theorem dX11_fault_22 : decode cX11_fault 22 = .ok (.ireturn, 1) := by decide +kernel
set_option maxHeartbeats 4000000 in
set_option maxRecDepth 100000 in
theorem S_X11_fault (l : Launch) (D : va_G) (K : Nat → ClassId) (a : Nat → Nat) (G : gS) (p0 : Int32) (s0 : Int) (e0 : p0.toInt = s0) (hI : xI G) (sz : Nat) : Ki l yX11_fault wsX11_fault 1 40 0 0 D [.ref (a 0), .int p0] (xW K a G) (tK K) sz (fun (r : Int32) (_ : Unit) => (((s0 = 0 ∧ r.toInt = (G 0 12).toInt) ∨ (s0 = 1 ∧ r.toInt = (G 0 13).toInt) ∨ (s0 ≠ 0 ∧ s0 ≠ 1 ∧ r.toInt = -1)))) (fun (_ : Unit) => (xW K a G)) (fun _ => (tK K)) := by
  unfold Ki
  refine g_ofW (cc := cX11_fault) (lv := [(0, .ref (a 0)), (1, .int p0)]) (by decide) rfl (Nat.le_of_ble_eq_true rfl) rfl ?_
  intro p e s m args below meth c A Q hA hQ F hr hnm
  have hts := F.2.2.2.2.1
  have w_0 : (Cond.fieldLink RX11 89 "QuietCut" "faultPlace" "I").before args s = true := hts _ (List.mem_of_getElem? (i := 2) rfl)
  have i_X11 : ∀ w ∈ u_ws RX11 TX11 14, w ∈ wsX11_fault := fun _ h => List.mem_cons_of_mem _ (List.mem_append_right _ h)
  have w_1 : (Cond.fieldLink RX11 111 "QuietCut" "faultKind" "I").before args s = true := hts _ (List.mem_of_getElem? (i := 1) rfl)
  have rg0 : -2147483648 ≤ s0 ∧ s0 ≤ 2147483647 := e0 ▸ ti_rng p0
  refine g_iload_n F 1 dX11_fault_0 rfl rfl ?_
  refine v_if_ne F 9 dX11_fault_1 (by decide) s0 e0 (fun c1 => ?_) (fun c1 => ?_)
  · refine g_iload_n F 1 dX11_fault_9 rfl rfl ?_
    refine g_iconst F 1 dX11_fault_10 (by decide) ?_
    refine v_icmp_ne F 21 dX11_fault_11 (by decide) s0 1 e0 rfl (fun c2 => ?_) (fun c2 => ?_)
    · refine g_iconst F (-1) dX11_fault_21 (by decide) ?_
      exact u_iret F hA hQ hr () ((by show ((s0 = 0 ∧ (-1) = (G 0 12).toInt) ∨ (s0 = 1 ∧ (-1) = (G 0 13).toInt) ∨ (s0 ≠ 0 ∧ s0 ≠ 1 ∧ (-1) = -1)); (first | omega | (simp only [Int32.reduceToInt, true_and, and_true, ne_eq, not_true_eq_false, false_and, or_false, false_or, true_or, or_true, false_implies] <;> omega)))) rfl rfl dX11_fault_22
    · refine g_aload_n F 0 dX11_fault_14 rfl rfl ?_
      refine xg_0_13 F i_X11 w_0 dX11_fault_15 (G 0 13) (rfl) ?_
      refine g_goto F 22 dX11_fault_18 (by decide) ?_
      exact u_iret F hA hQ hr () ((by show ((s0 = 0 ∧ (G 0 13).toInt = (G 0 12).toInt) ∨ (s0 = 1 ∧ (G 0 13).toInt = (G 0 13).toInt) ∨ (s0 ≠ 0 ∧ s0 ≠ 1 ∧ (G 0 13).toInt = -1)); (first | omega | (simp only [Int32.reduceToInt, true_and, and_true, ne_eq, not_true_eq_false, false_and, or_false, false_or, true_or, or_true, false_implies] <;> omega)))) rfl rfl dX11_fault_22
  · refine g_aload_n F 0 dX11_fault_4 rfl rfl ?_
    refine xg_0_12 F i_X11 w_1 dX11_fault_5 (G 0 12) (rfl) ?_
    exact u_iret F hA hQ hr () ((by show ((s0 = 0 ∧ (G 0 12).toInt = (G 0 12).toInt) ∨ (s0 = 1 ∧ (G 0 12).toInt = (G 0 13).toInt) ∨ (s0 ≠ 0 ∧ s0 ≠ 1 ∧ (G 0 12).toInt = -1)); (first | omega | (simp only [Int32.reduceToInt, true_and, and_true, ne_eq, not_true_eq_false, false_and, or_false, false_or, true_or, or_true, false_implies] <;> omega)))) rfl rfl dX11_fault_8

theorem dX11_noteFault_0 : decode cX11_noteFault 0 = .ok (.aload_n 0, 1) := by decide +kernel
theorem dX11_noteFault_1 : decode cX11_noteFault 1 = .ok (.iload_n 1, 1) := by decide +kernel
theorem dX11_noteFault_2 : decode cX11_noteFault 2 = .ok (.putfield 111, 3) := by decide +kernel
theorem dX11_noteFault_5 : decode cX11_noteFault 5 = .ok (.aload_n 0, 1) := by decide +kernel
theorem dX11_noteFault_6 : decode cX11_noteFault 6 = .ok (.iload_n 1, 1) := by decide +kernel
theorem dX11_noteFault_7 : decode cX11_noteFault 7 = .ok (.ifCond .ne 7, 3) := by decide +kernel
theorem dX11_noteFault_10 : decode cX11_noteFault 10 = .ok (.iconst (-1), 1) := by decide +kernel
theorem dX11_noteFault_11 : decode cX11_noteFault 11 = .ok (.goto 10, 3) := by decide +kernel
theorem dX11_noteFault_14 : decode cX11_noteFault 14 = .ok (.aload_n 0, 1) := by decide +kernel
theorem dX11_noteFault_15 : decode cX11_noteFault 15 = .ok (.getfield 12, 3) := by decide +kernel
theorem dX11_noteFault_18 : decode cX11_noteFault 18 = .ok (.getfield 127, 3) := by decide +kernel
theorem dX11_noteFault_21 : decode cX11_noteFault 21 = .ok (.putfield 89, 3) := by decide +kernel
theorem dX11_noteFault_24 : decode cX11_noteFault 24 = .ok (.aload_n 0, 1) := by decide +kernel
theorem dX11_noteFault_25 : decode cX11_noteFault 25 = .ok (.getfield 12, 3) := by decide +kernel
theorem dX11_noteFault_28 : decode cX11_noteFault 28 = .ok (.iconst 0, 1) := by decide +kernel
theorem dX11_noteFault_29 : decode cX11_noteFault 29 = .ok (.putfield 101, 3) := by decide +kernel
theorem dX11_noteFault_32 : decode cX11_noteFault 32 = .ok (.return_, 1) := by decide +kernel
set_option maxHeartbeats 4000000 in
set_option maxRecDepth 100000 in
theorem S_X11_noteFault (l : Launch) (D : va_G) (K : Nat → ClassId) (a : Nat → Nat) (G : gS) (p0 : Int32) (s0 : Int) (e0 : p0.toInt = s0) (hI : xI G) (sz : Nat) : Kv l yX11_noteFault wsX11_noteFault 1 40 0 0 D [.ref (a 0), .int p0] (xW K a G) (tK K) sz (fun (G' : gS) => (xI G') ∧ (gu_un xcd [13, 14, 102] G G') ∧ (((G' 1 1).toInt = 0)) ∧ (((G' 0 12).toInt = s0)) ∧ (((s0 = 0 ∧ (G' 0 13).toInt = -1) ∨ (s0 ≠ 0 ∧ (G' 0 13).toInt = (G 1 4).toInt)))) (fun (G' : gS) => (xW K a G')) (fun _ => (tK K)) := by
  unfold Kv
  refine g_ofW (cc := cX11_noteFault) (lv := [(0, .ref (a 0)), (1, .int p0)]) (by decide) rfl (Nat.le_of_ble_eq_true rfl) rfl ?_
  intro p e s m args below meth c A Q hA hQ F hr hnm
  have hts := F.2.2.2.2.1
  have w_0 : (Cond.fieldLink RX11 111 "QuietCut" "faultKind" "I").before args s = true := hts _ (List.mem_of_getElem? (i := 1) rfl)
  have i_X11 : ∀ w ∈ u_ws RX11 TX11 14, w ∈ wsX11_noteFault := fun _ h => List.mem_cons_of_mem _ (List.mem_append_left _ (List.mem_append_right _ h))
  have w_1 : (Cond.fieldLink RX11 12 "QuietCut" "tape" "LQuietCut$Tape;").before args s = true := hts _ (List.mem_of_getElem? (i := 2) rfl)
  have w_2 : (Cond.fieldLink RX11 127 "QuietCut$Tape" "place" "I").before args s = true := hts _ (List.mem_of_getElem? (i := 3) rfl)
  have i_X10 : ∀ w ∈ u_ws RX10 TX10 6, w ∈ wsX11_noteFault := fun _ h => List.mem_cons_of_mem _ (List.mem_append_right _ h)
  have w_3 : (Cond.fieldLink RX11 89 "QuietCut" "faultPlace" "I").before args s = true := hts _ (List.mem_of_getElem? (i := 4) rfl)
  have w_4 : (Cond.fieldLink RX11 101 "QuietCut$Tape" "length" "I").before args s = true := hts _ (List.mem_of_getElem? (i := 5) rfl)
  have rg0 : -2147483648 ≤ s0 ∧ s0 ≤ 2147483647 := e0 ▸ ti_rng p0
  refine g_aload_n F 0 dX11_noteFault_0 rfl rfl ?_
  refine g_iload_n F 1 dX11_noteFault_1 rfl rfl ?_
  refine xp_0_12 F i_X11 w_0 dX11_noteFault_2 ?_
  refine g_aload_n F 0 dX11_noteFault_5 rfl rfl ?_
  refine g_iload_n F 1 dX11_noteFault_6 rfl rfl ?_
  refine v_if_ne F 14 dX11_noteFault_7 (by decide) s0 e0 (fun c1 => ?_) (fun c1 => ?_)
  · refine g_aload_n F 0 dX11_noteFault_14 rfl rfl ?_
    refine xg_0_0 F i_X11 w_1 dX11_noteFault_15 ?_
    refine xg_1_4 F i_X10 w_2 dX11_noteFault_18 (G 1 4) (rfl) ?_
    have b2 : (0 : Int) ≤ (G 1 4).toInt ∧ (G 1 4).toInt ≤ 1000 := hI 1 4
    refine xp_0_13 F i_X11 w_3 dX11_noteFault_21 ?_
    refine g_aload_n F 0 dX11_noteFault_24 rfl rfl ?_
    refine xg_0_0 F i_X11 w_1 dX11_noteFault_25 ?_
    refine g_iconst F 0 dX11_noteFault_28 (by decide) ?_
    refine xp_1_1 F i_X10 w_4 dX11_noteFault_29 ?_
    exact u_vret F hA hQ hr (gu_up (gu_up (gu_up G 0 12 p0) 0 13 (G 1 4)) 1 1 0) (⟨(gu_I.up (j := 1) (k := 1) (v := 0) (gu_I.up (j := 0) (k := 13) (v := (G 1 4)) (gu_I.up (j := 0) (k := 12) (v := p0) hI (ti_rng _).1 (ti_rng _).2) (ti_rng _).1 (ti_rng _).2) (show (0 : Int) ≤ (0 : Int32).toInt by decide) (show (0 : Int32).toInt ≤ 1000 by decide)), (gu_un.up (j := 1) (k := 1) (v := 0) (gu_un.up (j := 0) (k := 13) (v := (G 1 4)) (gu_un.up (j := 0) (k := 12) (v := p0) gu_un.rf (show (13 : Nat) ∈ ([13, 14, 102] : List Nat) by decide)) (show (14 : Nat) ∈ ([13, 14, 102] : List Nat) by decide)) (show (102 : Nat) ∈ ([13, 14, 102] : List Nat) by decide)), (by show (((gu_up (gu_up (gu_up G 0 12 p0) 0 13 (G 1 4)) 1 1 0) 1 1).toInt = 0); have e9_1_1 : (gu_up (gu_up (gu_up G 0 12 p0) 0 13 (G 1 4)) 1 1 0) 1 1 = 0 := rfl; (try simp only [e9_1_1, true_and, and_true]) <;> (first | omega | (simp only [Int32.reduceToInt, true_and, and_true, ne_eq, not_true_eq_false, false_and, or_false, false_or, true_or, or_true, false_implies] <;> omega))), (by show (((gu_up (gu_up (gu_up G 0 12 p0) 0 13 (G 1 4)) 1 1 0) 0 12).toInt = s0); have e9_0_12 : (gu_up (gu_up (gu_up G 0 12 p0) 0 13 (G 1 4)) 1 1 0) 0 12 = p0 := rfl; (try simp only [e9_0_12, true_and, and_true]) <;> (first | omega | (simp only [Int32.reduceToInt, true_and, and_true, ne_eq, not_true_eq_false, false_and, or_false, false_or, true_or, or_true, false_implies] <;> omega))), (by show ((s0 = 0 ∧ ((gu_up (gu_up (gu_up G 0 12 p0) 0 13 (G 1 4)) 1 1 0) 0 13).toInt = -1) ∨ (s0 ≠ 0 ∧ ((gu_up (gu_up (gu_up G 0 12 p0) 0 13 (G 1 4)) 1 1 0) 0 13).toInt = (G 1 4).toInt)); have e9_0_13 : (gu_up (gu_up (gu_up G 0 12 p0) 0 13 (G 1 4)) 1 1 0) 0 13 = (G 1 4) := rfl; (try simp only [e9_0_13, true_and, and_true]) <;> (first | omega | (simp only [Int32.reduceToInt, true_and, and_true, ne_eq, not_true_eq_false, false_and, or_false, false_or, true_or, or_true, false_implies] <;> omega)))⟩) rfl rfl dX11_noteFault_32
  · refine g_iconst F (-1) dX11_noteFault_10 (by decide) ?_
    refine g_goto F 21 dX11_noteFault_11 (by decide) ?_
    refine xp_0_13 F i_X11 w_3 dX11_noteFault_21 ?_
    refine g_aload_n F 0 dX11_noteFault_24 rfl rfl ?_
    refine xg_0_0 F i_X11 w_1 dX11_noteFault_25 ?_
    refine g_iconst F 0 dX11_noteFault_28 (by decide) ?_
    refine xp_1_1 F i_X10 w_4 dX11_noteFault_29 ?_
    exact u_vret F hA hQ hr (gu_up (gu_up (gu_up G 0 12 p0) 0 13 (-1)) 1 1 0) (⟨(gu_I.up (j := 1) (k := 1) (v := 0) (gu_I.up (j := 0) (k := 13) (v := (-1)) (gu_I.up (j := 0) (k := 12) (v := p0) hI (ti_rng _).1 (ti_rng _).2) (ti_rng _).1 (ti_rng _).2) (show (0 : Int) ≤ (0 : Int32).toInt by decide) (show (0 : Int32).toInt ≤ 1000 by decide)), (gu_un.up (j := 1) (k := 1) (v := 0) (gu_un.up (j := 0) (k := 13) (v := (-1)) (gu_un.up (j := 0) (k := 12) (v := p0) gu_un.rf (show (13 : Nat) ∈ ([13, 14, 102] : List Nat) by decide)) (show (14 : Nat) ∈ ([13, 14, 102] : List Nat) by decide)) (show (102 : Nat) ∈ ([13, 14, 102] : List Nat) by decide)), (by show (((gu_up (gu_up (gu_up G 0 12 p0) 0 13 (-1)) 1 1 0) 1 1).toInt = 0); have e9_1_1 : (gu_up (gu_up (gu_up G 0 12 p0) 0 13 (-1)) 1 1 0) 1 1 = 0 := rfl; (try simp only [e9_1_1, true_and, and_true]) <;> (first | omega | (simp only [Int32.reduceToInt, true_and, and_true, ne_eq, not_true_eq_false, false_and, or_false, false_or, true_or, or_true, false_implies] <;> omega))), (by show (((gu_up (gu_up (gu_up G 0 12 p0) 0 13 (-1)) 1 1 0) 0 12).toInt = s0); have e9_0_12 : (gu_up (gu_up (gu_up G 0 12 p0) 0 13 (-1)) 1 1 0) 0 12 = p0 := rfl; (try simp only [e9_0_12, true_and, and_true]) <;> (first | omega | (simp only [Int32.reduceToInt, true_and, and_true, ne_eq, not_true_eq_false, false_and, or_false, false_or, true_or, or_true, false_implies] <;> omega))), (by show ((s0 = 0 ∧ ((gu_up (gu_up (gu_up G 0 12 p0) 0 13 (-1)) 1 1 0) 0 13).toInt = -1) ∨ (s0 ≠ 0 ∧ ((gu_up (gu_up (gu_up G 0 12 p0) 0 13 (-1)) 1 1 0) 0 13).toInt = (G 1 4).toInt)); have e9_0_13 : (gu_up (gu_up (gu_up G 0 12 p0) 0 13 (-1)) 1 1 0) 0 13 = (-1) := rfl; (try simp only [e9_0_13, true_and, and_true]) <;> (first | omega | (simp only [Int32.reduceToInt, true_and, and_true, ne_eq, not_true_eq_false, false_and, or_false, false_or, true_or, or_true, false_implies] <;> omega)))⟩) rfl rfl dX11_noteFault_32
