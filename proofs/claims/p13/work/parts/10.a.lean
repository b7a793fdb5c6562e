
set_option maxHeartbeats 4000000 in
set_option maxRecDepth 100000 in
theorem K_J7_fill_53178 (l : Launch) (D : va_G) (a : Nat) (N : Nat) (f : Nat → Int32) (v : Int32) (cI : ClassId) (hN : N < 2 ^ 31) (sz : Nat) : Kv l yJ7_fill_53178 wsJ7_fill_53178 1 30 0 0 D [.ref a, .int v] [(a, .inl (cI, N, .inl f))] [(cI, .int)] sz (fun (_ : Unit) => True) (fun (_ : Unit) => [(a, .inl (cI, N, .inl (fun _ => v)))]) (fun (_ : Unit) => [(cI, .int)]) := by
  unfold Kv
  refine g_ofW (cc := cJ7_fill_53178) (lv := [(0, .ref a), (1, .int v)]) (by decide) rfl (Nat.le_of_ble_eq_true rfl) rfl ?_
  intro p e s m args below meth c A Q hA hQ F hr hnm
  have hts := F.2.2.2.2.1
  refine g_iconst F 0 dJ7_fill_53178_0 (by decide) ?_
  refine g_istore_n F [(2, .int 0), (0, .ref a), (1, .int v)] dJ7_fill_53178_1 rfl (by decide) rfl ?_
  refine g_aload_n F 1 dJ7_fill_53178_2 rfl rfl ?_
  refine g_alen F 0 0 rfl rfl (nI N) rfl dJ7_fill_53178_3 ?_
  refine g_istore_n F [(3, .int (nI N)), (2, .int 0), (0, .ref a), (1, .int v)] dJ7_fill_53178_4 rfl (by decide) rfl ?_
  refine g_locals [(0, .ref a), (1, .int v), (2, .int 0), (3, .int (nI N))] [2, 3, 1, 0] rfl ?_
  have loop_5 : ∀ (fuel : Nat) (k : Nat) (g : Nat → Int32), N - k < fuel → (k ≤ N) → (∀ j, j < k → g j = v) → gG p l e (gR 1 0 0 30) s m args below meth c D A 4 Q 0 0 [(a, .inl (cI, N, .inl g))] [(cI, .int)] [(0, .ref a), (1, .int v), (2, .int (nI k)), (3, .int (nI N))] 5 [] := by
    intro fuel_5
    induction fuel_5 with
    | zero => intro k g hm; exact absurd hm (Nat.not_lt_zero _)
    | succ fuel_5 ih_5 =>
      intro k g hm5 hk0 hg
      refine g_iload_n F 2 dJ7_fill_53178_5 rfl rfl ?_
      refine g_iload_n F 3 dJ7_fill_53178_6 rfl rfl ?_
      refine g_icmp_ge F 20 dJ7_fill_53178_7 (by decide) (fun c_7 => ?_) (fun c_7 => ?_)
      · have hk : k = N := Nat.le_antisymm hk0 (Nat.le_of_not_lt (fun h => nI_ge h hN c_7))
        refine g_cell 0 (fun _ => v) rfl (fun j hj => hg j (by omega)) [(a, .inl (cI, N, .inl (fun _ => v)))] rfl ?_
        exact g_vret F hA hQ hr () (trivial) [0] [0] rfl (by decide) rfl rfl dJ7_fill_53178_20
      · have hk : k < N := Nat.lt_of_not_le (fun h => c_7 (nI_le h (by omega)))
        refine g_aload_n F 0 dJ7_fill_53178_10 rfl rfl ?_
        refine g_iload_n F 2 dJ7_fill_53178_11 rfl rfl ?_
        refine g_iload_n F 1 dJ7_fill_53178_12 rfl rfl ?_
        refine g_iast F 0 0 rfl rfl (vp_in_nI hk hN) [(a, .inl (cI, N, .inl (upd g k v)))] (by rw [nI_clamp (by omega)]; rfl) dJ7_fill_53178_13 ?_
        refine g_iinc F (j := 2) (nI (k + 1)) [(2, .int (nI (k + 1))), (0, .ref a), (1, .int v), (3, .int (nI N))] dJ7_fill_53178_14 rfl (nI_1 k) (by decide) rfl ?_
        refine g_goto F 5 dJ7_fill_53178_17 (by decide) ?_
        refine g_locals [(0, .ref a), (1, .int v), (2, .int (nI (k + 1))), (3, .int (nI N))] [1, 2, 0, 3] rfl ?_
        exact ih_5 (k + 1) (upd g k v) (by omega) (hk) (fun j hj => by
          by_cases e9 : j = k
          · subst e9; exact pk_us
          · rw [pk_un e9]; exact hg j (by omega))
  exact loop_5 (_ + 1) 0 f (Nat.lt_succ_self _) (Nat.zero_le _) (fun j hj => absurd hj (Nat.not_lt_zero j))

theorem dX10_init_0 : decode cX10_init 0 = .ok (.aload_n 0, 1) := by decide +kernel
theorem dX10_init_1 : decode cX10_init 1 = .ok (.invokespecial 1, 3) := by decide +kernel
theorem dX10_init_4 : decode cX10_init 4 = .ok (.aload_n 0, 1) := by decide +kernel
theorem dX10_init_5 : decode cX10_init 5 = .ok (.sipush 1000, 3) := by decide +kernel
theorem dX10_init_8 : decode cX10_init 8 = .ok (.newarray .byte, 2) := by decide +kernel
theorem dX10_init_10 : decode cX10_init 10 = .ok (.putfield 9, 3) := by decide +kernel
theorem dX10_init_13 : decode cX10_init 13 = .ok (.return_, 1) := by decide +kernel
set_option maxHeartbeats 4000000 in
set_option maxRecDepth 100000 in
theorem K_X10_init (l : Launch) (D : va_G) (h0 : Nat) (cB : ClassId) (sz : Nat) : Kv l yX10_init wsX10_init 1 30 1 1000 D [.ref h0] [(h0, .inr (9, [.null, .int 0, .int 0, .int 0, .int 0, .int 0]))] [(cB, .byte)] sz (fun (u : Nat) => True) (fun (u : Nat) => [(h0, .inr (9, [.ref u, .int 0, .int 0, .int 0, .int 0, .int 0])), (u, .inl (cB, 1000, .inl (fun _ => 0)))]) (fun (_ : Nat) => [(cB, .byte)]) := by
  unfold Kv
  refine g_ofW (cc := cX10_init) (lv := [(0, .ref h0)]) (by decide) rfl (Nat.le_of_ble_eq_true rfl) rfl ?_
  intro p e s m args below meth c A Q hA hQ F hr hnm
  have hts := F.2.2.2.2.1
  have w_0 : (Cond.methodLink RX10 1 objectInit).before args s = true := hts _ (List.mem_of_getElem? (i := 1) rfl)
  have w_1 : (Cond.instanceMethod objectInit).before args s = true := hts _ (List.mem_of_getElem? (i := 2) rfl)
  have w_2 : (Cond.code objectInit ⟨#[0xb1]⟩ 1 none).before args s = true := hts _ (List.mem_of_getElem? (i := 3) rfl)
  have w_3 : (Cond.arrayClass .byte).before args s = true := hts _ (List.mem_of_getElem? (i := 4) rfl)
  have w_4 : (Cond.fieldLink RX10 9 "QuietCut$Tape" "bytes" "[B").before args s = true := hts _ (List.mem_of_getElem? (i := 5) rfl)
  have i_X10 : ∀ w ∈ u_ws RX10 TX10 6, w ∈ wsX10_init := fun _ h => List.mem_cons_of_mem _ (List.mem_append_right _ h)
  refine g_aload_n F 0 dX10_init_0 rfl rfl ?_
  refine g_objInit F w_0 w_1 w_2 dX10_init_1 (Nat.le_of_ble_eq_true rfl) (Nat.le_of_ble_eq_true rfl) ?_
  refine g_aload_n F 0 dX10_init_4 rfl rfl ?_
  refine g_sipush F 1000 dX10_init_5 (by decide) ?_
  refine g_newb F 0 rfl w_3 1000 (by decide) rfl (by decide) (Nat.le_of_ble_eq_true rfl) (Nat.le_of_ble_eq_true rfl) dX10_init_8 (fun tb => ?_)
  show gG p l e (gR 1 1 1000 30) s m args below meth c D A 1 Q 1 1000 [(h0, .inr (9, [.null, .int 0, .int 0, .int 0, .int 0, .int 0])), (tb, .inl (cB, 1000, .inl (fun _ => 0)))] [(cB, .byte)] [(0, .ref h0)] 10 [.ref tb, .ref h0]
  refine g_putF (C := RX10) (T := TX10) (N := 6) (ty := (.array .byte)) (v := .ref tb) F i_X10 0 rfl rfl 0 (by decide) w_4 rfl tyX10 tyX10_ok nmX10 rfl hnm rfl (by decide +kernel) rfl rfl (Nat.le_of_ble_eq_true rfl) [(h0, .inr (9, [.ref tb, .int 0, .int 0, .int 0, .int 0, .int 0])), (tb, .inl (cB, 1000, .inl (fun _ => 0)))] rfl dX10_init_10 ?_
  exact g_vret F hA hQ hr tb (trivial) [0, 1] [0] rfl (by decide) rfl rfl dX10_init_13

theorem dX3_init_0 : decode cX3_init 0 = .ok (.aload_n 0, 1) := by decide +kernel
theorem dX3_init_1 : decode cX3_init 1 = .ok (.invokespecial 3, 3) := by decide +kernel
theorem dX3_init_4 : decode cX3_init 4 = .ok (.aload_n 0, 1) := by decide +kernel
theorem dX3_init_5 : decode cX3_init 5 = .ok (.bipush 80, 2) := by decide +kernel
theorem dX3_init_7 : decode cX3_init 7 = .ok (.newarray .int, 2) := by decide +kernel
theorem dX3_init_9 : decode cX3_init 9 = .ok (.putfield 11, 3) := by decide +kernel
theorem dX3_init_12 : decode cX3_init 12 = .ok (.aload_n 0, 1) := by decide +kernel
theorem dX3_init_13 : decode cX3_init 13 = .ok (.bipush 12, 2) := by decide +kernel
theorem dX3_init_15 : decode cX3_init 15 = .ok (.newarray .int, 2) := by decide +kernel
theorem dX3_init_17 : decode cX3_init 17 = .ok (.putfield 15, 3) := by decide +kernel
theorem dX3_init_20 : decode cX3_init 20 = .ok (.aload_n 0, 1) := by decide +kernel
theorem dX3_init_21 : decode cX3_init 21 = .ok (.bipush 16, 2) := by decide +kernel
theorem dX3_init_23 : decode cX3_init 23 = .ok (.newarray .int, 2) := by decide +kernel
theorem dX3_init_25 : decode cX3_init 25 = .ok (.putfield 18, 3) := by decide +kernel
theorem dX3_init_28 : decode cX3_init 28 = .ok (.return_, 1) := by decide +kernel
set_option maxHeartbeats 4000000 in
set_option maxRecDepth 100000 in
theorem K_X3_init (l : Launch) (D : va_G) (h0 : Nat) (cI : ClassId) (sz : Nat) : Kv l yX3_init wsX3_init 1 30 3 108 D [.ref h0] [(h0, .inr (2, [.null, .int 0, .null, .null, .int 0, .int 0, .int 0, .int 0, .int 0]))] [(cI, .int)] sz (fun (u : Nat × Nat × Nat) => True) (fun (u : Nat × Nat × Nat) => [(h0, .inr (2, [.ref u.1, .int 0, .ref u.2.1, .ref u.2.2, .int 0, .int 0, .int 0, .int 0, .int 0])), (u.1, .inl (cI, 80, .inl (fun _ => 0))), (u.2.1, .inl (cI, 12, .inl (fun _ => 0))), (u.2.2, .inl (cI, 16, .inl (fun _ => 0)))]) (fun (_ : Nat × Nat × Nat) => [(cI, .int)]) := by
  unfold Kv
  refine g_ofW (cc := cX3_init) (lv := [(0, .ref h0)]) (by decide) rfl (Nat.le_of_ble_eq_true rfl) rfl ?_
  intro p e s m args below meth c A Q hA hQ F hr hnm
  have hts := F.2.2.2.2.1
  have w_0 : (Cond.methodLink RX3 3 objectInit).before args s = true := hts _ (List.mem_of_getElem? (i := 1) rfl)
  have w_1 : (Cond.instanceMethod objectInit).before args s = true := hts _ (List.mem_of_getElem? (i := 2) rfl)
  have w_2 : (Cond.code objectInit ⟨#[0xb1]⟩ 1 none).before args s = true := hts _ (List.mem_of_getElem? (i := 3) rfl)
  have w_3 : (Cond.arrayClass .int).before args s = true := hts _ (List.mem_of_getElem? (i := 4) rfl)
  have w_4 : (Cond.fieldLink RX3 11 "QuietCut$Formula" "codes" "[I").before args s = true := hts _ (List.mem_of_getElem? (i := 5) rfl)
  have i_X3 : ∀ w ∈ u_ws RX3 TX3 9, w ∈ wsX3_init := fun _ h => List.mem_cons_of_mem _ (List.mem_append_right _ h)
  have w_5 : (Cond.fieldLink RX3 15 "QuietCut$Formula" "stack" "[I").before args s = true := hts _ (List.mem_of_getElem? (i := 6) rfl)
  have w_6 : (Cond.fieldLink RX3 18 "QuietCut$Formula" "waiting" "[I").before args s = true := hts _ (List.mem_of_getElem? (i := 7) rfl)
  refine g_aload_n F 0 dX3_init_0 rfl rfl ?_
  refine g_objInit F w_0 w_1 w_2 dX3_init_1 (Nat.le_of_ble_eq_true rfl) (Nat.le_of_ble_eq_true rfl) ?_
  refine g_aload_n F 0 dX3_init_4 rfl rfl ?_
  refine g_bipush F 80 dX3_init_5 (by decide) ?_
  refine g_newi F 0 rfl w_3 80 (by decide) rfl (by decide) (Nat.le_of_ble_eq_true rfl) (Nat.le_of_ble_eq_true rfl) dX3_init_7 (fun fc => ?_)
  show gG p l e (gR 1 3 108 30) s m args below meth c D A 1 Q 1 80 [(h0, .inr (2, [.null, .int 0, .null, .null, .int 0, .int 0, .int 0, .int 0, .int 0])), (fc, .inl (cI, 80, .inl (fun _ => 0)))] [(cI, .int)] [(0, .ref h0)] 9 [.ref fc, .ref h0]
  refine g_putF (C := RX3) (T := TX3) (N := 9) (ty := (.array .int)) (v := .ref fc) F i_X3 0 rfl rfl 0 (by decide) w_4 rfl tyX3 tyX3_ok nmX3 rfl hnm rfl (by decide +kernel) rfl rfl (Nat.le_of_ble_eq_true rfl) [(h0, .inr (2, [.ref fc, .int 0, .null, .null, .int 0, .int 0, .int 0, .int 0, .int 0])), (fc, .inl (cI, 80, .inl (fun _ => 0)))] rfl dX3_init_9 ?_
  refine g_aload_n F 0 dX3_init_12 rfl rfl ?_
  refine g_bipush F 12 dX3_init_13 (by decide) ?_
  refine g_newi F 0 rfl w_3 12 (by decide) rfl (by decide) (Nat.le_of_ble_eq_true rfl) (Nat.le_of_ble_eq_true rfl) dX3_init_15 (fun fs => ?_)
  show gG p l e (gR 1 3 108 30) s m args below meth c D A 1 Q 2 92 [(h0, .inr (2, [.ref fc, .int 0, .null, .null, .int 0, .int 0, .int 0, .int 0, .int 0])), (fc, .inl (cI, 80, .inl (fun _ => 0))), (fs, .inl (cI, 12, .inl (fun _ => 0)))] [(cI, .int)] [(0, .ref h0)] 17 [.ref fs, .ref h0]
  refine g_putF (C := RX3) (T := TX3) (N := 9) (ty := (.array .int)) (v := .ref fs) F i_X3 0 rfl rfl 2 (by decide) w_5 rfl tyX3 tyX3_ok nmX3 rfl hnm rfl (by decide +kernel) rfl rfl (Nat.le_of_ble_eq_true rfl) [(h0, .inr (2, [.ref fc, .int 0, .ref fs, .null, .int 0, .int 0, .int 0, .int 0, .int 0])), (fc, .inl (cI, 80, .inl (fun _ => 0))), (fs, .inl (cI, 12, .inl (fun _ => 0)))] rfl dX3_init_17 ?_
  refine g_aload_n F 0 dX3_init_20 rfl rfl ?_
  refine g_bipush F 16 dX3_init_21 (by decide) ?_
  refine g_newi F 0 rfl w_3 16 (by decide) rfl (by decide) (Nat.le_of_ble_eq_true rfl) (Nat.le_of_ble_eq_true rfl) dX3_init_23 (fun fw => ?_)
  show gG p l e (gR 1 3 108 30) s m args below meth c D A 1 Q 3 108 [(h0, .inr (2, [.ref fc, .int 0, .ref fs, .null, .int 0, .int 0, .int 0, .int 0, .int 0])), (fc, .inl (cI, 80, .inl (fun _ => 0))), (fs, .inl (cI, 12, .inl (fun _ => 0))), (fw, .inl (cI, 16, .inl (fun _ => 0)))] [(cI, .int)] [(0, .ref h0)] 25 [.ref fw, .ref h0]
  refine g_putF (C := RX3) (T := TX3) (N := 9) (ty := (.array .int)) (v := .ref fw) F i_X3 0 rfl rfl 3 (by decide) w_6 rfl tyX3 tyX3_ok nmX3 rfl hnm rfl (by decide +kernel) rfl rfl (Nat.le_of_ble_eq_true rfl) [(h0, .inr (2, [.ref fc, .int 0, .ref fs, .ref fw, .int 0, .int 0, .int 0, .int 0, .int 0])), (fc, .inl (cI, 80, .inl (fun _ => 0))), (fs, .inl (cI, 12, .inl (fun _ => 0))), (fw, .inl (cI, 16, .inl (fun _ => 0)))] rfl dX3_init_25 ?_
  exact g_vret F hA hQ hr (fc, fs, fw) (trivial) [0, 1, 2, 3] [0] rfl (by decide) rfl rfl dX3_init_28


set_option maxHeartbeats 4000000 in
set_option maxRecDepth 100000 in
theorem K_X3_putCode (l : Launch) (D : va_G) (h0 : Nat) (h1 : Nat) (h2 : Nat) (h3 : Nat) (cI : ClassId) (f : Nat → Int32) (co : Int32) (sz : Nat) : Kv l yX3_putCode wsX3_putCode 1 30 0 0 D [.ref h0, .int co] [(h0, .inr (2, [.ref h1, .int 0, .ref h2, .ref h3, .int 0, .int 0, .int 0, .int 0, .int 0])), (h1, .inl (cI, 80, .inl f))] [(cI, .int)] sz (fun (_ : Unit) => True) (fun (_ : Unit) => [(h0, .inr (2, [.ref h1, .int 1, .ref h2, .ref h3, .int 0, .int 0, .int 0, .int 0, .int 0])), (h1, .inl (cI, 80, .inl (upd f 0 co)))]) (fun (_ : Unit) => [(cI, .int)]) := by
  unfold Kv
  refine g_ofW (cc := cX3_putCode) (lv := [(0, .ref h0), (1, .int co)]) (by decide) rfl (Nat.le_of_ble_eq_true rfl) rfl ?_
  intro p e s m args below meth c A Q hA hQ F hr hnm
  have hts := F.2.2.2.2.1
  have w_0 : (Cond.fieldLink RX3 21 "QuietCut$Formula" "length" "I").before args s = true := hts _ (List.mem_of_getElem? (i := 1) rfl)
  have i_X3 : ∀ w ∈ u_ws RX3 TX3 9, w ∈ wsX3_putCode := fun _ h => List.mem_cons_of_mem _ (List.mem_append_right _ h)
  have w_1 : (Cond.fieldLink RX3 11 "QuietCut$Formula" "codes" "[I").before args s = true := hts _ (List.mem_of_getElem? (i := 2) rfl)
  refine g_aload_n F 0 dX3_putCode_0 rfl rfl ?_
  refine g_get (C := RX3) (T := TX3) (N := 9) (v := .int 0) F i_X3 0 rfl rfl 1 (by decide) w_0 rfl rfl dX3_putCode_1 ?_
  refine g_bipush F 80 dX3_putCode_4 (by decide) ?_
  refine g_icmp_ge F 29 dX3_putCode_6 (by decide) (fun h9 => absurd h9 (by decide)) (fun c_6 => ?_)
  refine g_aload_n F 0 dX3_putCode_9 rfl rfl ?_
  refine g_get (C := RX3) (T := TX3) (N := 9) (v := .ref h1) F i_X3 0 rfl rfl 0 (by decide) w_1 rfl rfl dX3_putCode_10 ?_
  refine g_aload_n F 0 dX3_putCode_13 rfl rfl ?_
  refine g_get (C := RX3) (T := TX3) (N := 9) (v := .int 0) F i_X3 0 rfl rfl 1 (by decide) w_0 rfl rfl dX3_putCode_14 ?_
  refine g_iload_n F 1 dX3_putCode_17 rfl rfl ?_
  refine g_iast F 1 0 rfl rfl (by unfold vp_in; decide) [(h0, .inr (2, [.ref h1, .int 0, .ref h2, .ref h3, .int 0, .int 0, .int 0, .int 0, .int 0])), (h1, .inl (cI, 80, .inl (upd f 0 co)))] (rfl) dX3_putCode_18 ?_
  refine g_aload_n F 0 dX3_putCode_19 rfl rfl ?_
  refine g_dup F dX3_putCode_20 rfl ?_
  refine g_get (C := RX3) (T := TX3) (N := 9) (v := .int 0) F i_X3 0 rfl rfl 1 (by decide) w_0 rfl rfl dX3_putCode_21 ?_
  refine g_iconst F 1 dX3_putCode_24 (by decide) ?_
  refine g_iadd F dX3_putCode_25 ?_
  refine g_fold 1 (by decide) ?_
  refine g_put (C := RX3) (T := TX3) (N := 9) (ty := .int) (v := .int 1) F i_X3 0 rfl rfl 1 (by decide) w_0 rfl tyX3 tyX3_ok nmX3 rfl (by decide +kernel) rfl rfl (Nat.le_of_ble_eq_true rfl) [(h0, .inr (2, [.ref h1, .int 1, .ref h2, .ref h3, .int 0, .int 0, .int 0, .int 0, .int 0])), (h1, .inl (cI, 80, .inl (upd f 0 co)))] rfl dX3_putCode_26 ?_
  exact g_vret F hA hQ hr () (trivial) [0, 1] [0] rfl (by decide) rfl rfl dX3_putCode_29


set_option maxHeartbeats 4000000 in
set_option maxRecDepth 100000 in
theorem K_X3_beFirstLetter (l : Launch) (D : va_G) (h0 : Nat) (h1 : Nat) (h2 : Nat) (h3 : Nat) (cI : ClassId) (f : Nat → Int32) (ln : Int32) (sz : Nat) : Kv l yX3_beFirstLetter wsX3_beFirstLetter 2 51 0 0 D [.ref h0] [(h0, .inr (2, [.ref h1, .int ln, .ref h2, .ref h3, .int 0, .int 0, .int 0, .int 0, .int 0])), (h1, .inl (cI, 80, .inl f))] [(cI, .int)] sz (fun (_ : Unit) => True) (fun (_ : Unit) => [(h0, .inr (2, [.ref h1, .int 1, .ref h2, .ref h3, .int 0, .int 0, .int 0, .int 0, .int 0])), (h1, .inl (cI, 80, .inl (upd f 0 (-1))))]) (fun (_ : Unit) => [(cI, .int)]) := by
  unfold Kv
  refine g_ofW (cc := cX3_beFirstLetter) (lv := [(0, .ref h0)]) (by decide) rfl (Nat.le_of_ble_eq_true rfl) rfl ?_
  intro p e s m args below meth c A Q hA hQ F hr hnm
  have hts := F.2.2.2.2.1
  have w_0 : (Cond.fieldLink RX3 21 "QuietCut$Formula" "length" "I").before args s = true := hts _ (List.mem_of_getElem? (i := 1) rfl)
  have i_X3 : ∀ w ∈ u_ws RX3 TX3 9, w ∈ wsX3_beFirstLetter := fun _ h => List.mem_cons_of_mem _ (List.mem_append_right _ h)
  refine g_aload_n F 0 dX3_beFirstLetter_0 rfl rfl ?_
  refine g_iconst F 0 dX3_beFirstLetter_1 (by decide) ?_
  refine g_put (C := RX3) (T := TX3) (N := 9) (ty := .int) (v := .int 0) F i_X3 0 rfl rfl 1 (by decide) w_0 rfl tyX3 tyX3_ok nmX3 rfl (by decide +kernel) rfl rfl (Nat.le_of_ble_eq_true rfl) [(h0, .inr (2, [.ref h1, .int 0, .ref h2, .ref h3, .int 0, .int 0, .int 0, .int 0, .int 0])), (h1, .inl (cI, 80, .inl f))] rfl dX3_beFirstLetter_2 ?_
  refine g_aload_n F 0 dX3_beFirstLetter_5 rfl rfl ?_
  refine g_iconst F (-1) dX3_beFirstLetter_6 (by decide) ?_
  refine g_callVv (k := 0) (n := 0) (b := h0) (As := [.int (-1)]) (st := []) (wc := [(h0, .inr (2, [.ref h1, .int 0, .ref h2, .ref h3, .int 0, .int 0, .int 0, .int 0, .int 0])), (h1, .inl (cI, 80, .inl f))]) (wr := []) F [0, 1] [] [0] rfl rfl (by decide) rfl (by decide) (by decide) rfl (fun sz => K_X3_putCode l D h0 h1 h2 h3 cI f (-1)  sz) (cwV 1 hts gX3_beFirstLetter_X3_putCode rfl rfl rfl (by decide +kernel) ⟨Nat.le_of_ble_eq_true rfl, Nat.le_of_ble_eq_true rfl⟩) rfl 0 rfl rfl (Nat.le_of_ble_eq_true rfl) ⟨Nat.le_of_ble_eq_true rfl, Nat.le_of_ble_eq_true rfl⟩ dX3_beFirstLetter_7 (fun _ hw_2 => ?_)
  show gG p l e (gR 2 0 0 51) s m args below meth c D A 1 Q 0 0 [(h0, .inr (2, [.ref h1, .int 1, .ref h2, .ref h3, .int 0, .int 0, .int 0, .int 0, .int 0])), (h1, .inl (cI, 80, .inl (upd f 0 (-1))))] [(cI, .int)] [(0, .ref h0)] 10 []
  exact g_vret F hA hQ hr () (trivial) [0, 1] [0] rfl (by decide) rfl rfl dX3_beFirstLetter_10


set_option maxHeartbeats 4000000 in
set_option maxRecDepth 100000 in
theorem K_X3_beZero (l : Launch) (D : va_G) (h0 : Nat) (h1 : Nat) (h2 : Nat) (h3 : Nat) (cI : ClassId) (f : Nat → Int32) (ln : Int32) (sz : Nat) : Kv l yX3_beZero wsX3_beZero 2 51 0 0 D [.ref h0] [(h0, .inr (2, [.ref h1, .int ln, .ref h2, .ref h3, .int 0, .int 0, .int 0, .int 0, .int 0])), (h1, .inl (cI, 80, .inl f))] [(cI, .int)] sz (fun (_ : Unit) => True) (fun (_ : Unit) => [(h0, .inr (2, [.ref h1, .int 1, .ref h2, .ref h3, .int 0, .int 0, .int 0, .int 0, .int 0])), (h1, .inl (cI, 80, .inl (upd f 0 0)))]) (fun (_ : Unit) => [(cI, .int)]) := by
  unfold Kv
  refine g_ofW (cc := cX3_beZero) (lv := [(0, .ref h0)]) (by decide) rfl (Nat.le_of_ble_eq_true rfl) rfl ?_
  intro p e s m args below meth c A Q hA hQ F hr hnm
  have hts := F.2.2.2.2.1
  have w_0 : (Cond.fieldLink RX3 21 "QuietCut$Formula" "length" "I").before args s = true := hts _ (List.mem_of_getElem? (i := 1) rfl)
  have i_X3 : ∀ w ∈ u_ws RX3 TX3 9, w ∈ wsX3_beZero := fun _ h => List.mem_cons_of_mem _ (List.mem_append_right _ h)
  refine g_aload_n F 0 dX3_beZero_0 rfl rfl ?_
  refine g_iconst F 0 dX3_beZero_1 (by decide) ?_
  refine g_put (C := RX3) (T := TX3) (N := 9) (ty := .int) (v := .int 0) F i_X3 0 rfl rfl 1 (by decide) w_0 rfl tyX3 tyX3_ok nmX3 rfl (by decide +kernel) rfl rfl (Nat.le_of_ble_eq_true rfl) [(h0, .inr (2, [.ref h1, .int 0, .ref h2, .ref h3, .int 0, .int 0, .int 0, .int 0, .int 0])), (h1, .inl (cI, 80, .inl f))] rfl dX3_beZero_2 ?_
  refine g_aload_n F 0 dX3_beZero_5 rfl rfl ?_
  refine g_iconst F 0 dX3_beZero_6 (by decide) ?_
  refine g_callVv (k := 0) (n := 0) (b := h0) (As := [.int 0]) (st := []) (wc := [(h0, .inr (2, [.ref h1, .int 0, .ref h2, .ref h3, .int 0, .int 0, .int 0, .int 0, .int 0])), (h1, .inl (cI, 80, .inl f))]) (wr := []) F [0, 1] [] [0] rfl rfl (by decide) rfl (by decide) (by decide) rfl (fun sz => K_X3_putCode l D h0 h1 h2 h3 cI f 0  sz) (cwV 1 hts gX3_beZero_X3_putCode rfl rfl rfl (by decide +kernel) ⟨Nat.le_of_ble_eq_true rfl, Nat.le_of_ble_eq_true rfl⟩) rfl 0 rfl rfl (Nat.le_of_ble_eq_true rfl) ⟨Nat.le_of_ble_eq_true rfl, Nat.le_of_ble_eq_true rfl⟩ dX3_beZero_7 (fun _ hw_2 => ?_)
  show gG p l e (gR 2 0 0 51) s m args below meth c D A 1 Q 0 0 [(h0, .inr (2, [.ref h1, .int 1, .ref h2, .ref h3, .int 0, .int 0, .int 0, .int 0, .int 0])), (h1, .inl (cI, 80, .inl (upd f 0 0)))] [(cI, .int)] [(0, .ref h0)] 10 []
  exact g_vret F hA hQ hr () (trivial) [0, 1] [0] rfl (by decide) rfl rfl dX3_beZero_10

def g_nums : Nat → Int32 := fun j => if j < 12 then gz_untold j else 0


set_option maxHeartbeats 4000000 in
set_option maxRecDepth 100000 in
theorem K_X7_beUntold (l : Launch) (D : va_G) (tz : Nat) (h0 : Nat) (h1 : Nat) (h2 : Nat) (h3 : Nat) (h4 : Nat) (c2 : Nat) (s2 : Nat) (w2 : Nat) (c3 : Nat) (s3 : Nat) (w3 : Nat) (c4 : Nat) (s4 : Nat) (w4 : Nat) (cI : ClassId) (fn : Nat → Int32) (f2 : Nat → Int32) (f3 : Nat → Int32) (f4 : Nat → Int32) (l2 : Int32) (l3 : Int32) (l4 : Int32) (sz : Nat) : Kvz l yX7_beUntold wsX7_beUntold 3 71 0 0 D tz [.ref h0] [(h0, .inr (6, [.ref h1, .ref h2, .ref h3, .ref h4])), (h1, .inl (cI, 36, .inl fn)), (h2, .inr (2, [.ref c2, .int l2, .ref s2, .ref w2, .int 0, .int 0, .int 0, .int 0, .int 0])), (c2, .inl (cI, 80, .inl f2)), (h3, .inr (2, [.ref c3, .int l3, .ref s3, .ref w3, .int 0, .int 0, .int 0, .int 0, .int 0])), (c3, .inl (cI, 80, .inl f3)), (h4, .inr (2, [.ref c4, .int l4, .ref s4, .ref w4, .int 0, .int 0, .int 0, .int 0, .int 0])), (c4, .inl (cI, 80, .inl f4))] [(cI, .int)] sz (fun (_ : Unit) => True) (fun (_ : Unit) => [(h0, .inr (6, [.ref h1, .ref h2, .ref h3, .ref h4])), (h1, .inl (cI, 36, .inl g_nums)), (h2, .inr (2, [.ref c2, .int 1, .ref s2, .ref w2, .int 0, .int 0, .int 0, .int 0, .int 0])), (c2, .inl (cI, 80, .inl (upd f2 0 (-1)))), (h3, .inr (2, [.ref c3, .int 1, .ref s3, .ref w3, .int 0, .int 0, .int 0, .int 0, .int 0])), (c3, .inl (cI, 80, .inl (upd f3 0 0))), (h4, .inr (2, [.ref c4, .int 1, .ref s4, .ref w4, .int 0, .int 0, .int 0, .int 0, .int 0])), (c4, .inl (cI, 80, .inl (upd f4 0 0)))]) (fun (_ : Unit) => [(cI, .int)]) := by
  unfold Kvz
  refine g_ofWz (cc := cX7_beUntold) (lv := [(0, .ref h0)]) (by decide) rfl (Nat.le_of_ble_eq_true rfl) rfl ?_
  intro p e s m args below meth c A Q hA hQ Z F hr hnm
  have hts := F.2.2.2.2.1
  have w_0 : (Cond.fieldLink RX7 11 "QuietCut$Shop" "numbers" "[I").before args s = true := hts _ (List.mem_of_getElem? (i := 1) rfl)
  have i_X7 : ∀ w ∈ u_ws RX7 TX7 4, w ∈ wsX7_beUntold := fun _ h => List.mem_cons_of_mem _ (List.mem_append_left _ (List.mem_append_right _ h))
  have w_1 : (Cond.fieldLink RX7 37 "QuietCut$Shop" "UNTOLD" "[I").before args s = true := hts _ (List.mem_of_getElem? (i := 2) rfl)
  have w_2 : (Cond.methodLink RX7 40 arraycopyName).before args s = true := hts _ (List.mem_of_getElem? (i := 3) rfl)
  have w_3 : (Cond.native arraycopyName).before args s = true := hts _ (List.mem_of_getElem? (i := 4) rfl)
  have w_4 : (Cond.static arraycopyName).before args s = true := hts _ (List.mem_of_getElem? (i := 5) rfl)
  have w_5 : (Cond.initialized "java/lang/System").before args s = true := hts _ (List.mem_of_getElem? (i := 6) rfl)
  have w_6 : (Cond.fieldLink RX7 18 "QuietCut$Shop" "force" "LQuietCut$Formula;").before args s = true := hts _ (List.mem_of_getElem? (i := 7) rfl)
  have w_7 : (Cond.fieldLink RX7 22 "QuietCut$Shop" "wall" "LQuietCut$Formula;").before args s = true := hts _ (List.mem_of_getElem? (i := 8) rfl)
  have w_8 : (Cond.fieldLink RX7 25 "QuietCut$Shop" "wear" "LQuietCut$Formula;").before args s = true := hts _ (List.mem_of_getElem? (i := 9) rfl)
  refine g_aload_n F 0 dX7_beUntold_0 rfl rfl ?_
  refine g_get (C := RX7) (T := TX7) (N := 4) (v := .ref h1) F i_X7 0 rfl rfl 0 (by decide) w_0 rfl rfl dX7_beUntold_1 ?_
  refine g_iconst F 0 dX7_beUntold_4 (by decide) ?_
  refine g_callSv (k := 0) (n := 0) (As := [.ref h1, .int 0]) (st := []) (wc := [(h1, .inl (cI, 36, .inl fn))]) (wr := [(h0, .inr (6, [.ref h1, .ref h2, .ref h3, .ref h4])), (h2, .inr (2, [.ref c2, .int l2, .ref s2, .ref w2, .int 0, .int 0, .int 0, .int 0, .int 0])), (c2, .inl (cI, 80, .inl f2)), (h3, .inr (2, [.ref c3, .int l3, .ref s3, .ref w3, .int 0, .int 0, .int 0, .int 0, .int 0])), (c3, .inl (cI, 80, .inl f3)), (h4, .inr (2, [.ref c4, .int l4, .ref s4, .ref w4, .int 0, .int 0, .int 0, .int 0, .int 0])), (c4, .inl (cI, 80, .inl f4))]) F [1] [0, 2, 3, 4, 5, 6, 7] [0] rfl rfl (by decide) rfl (by decide) (by decide) rfl (fun sz => K_J7_fill_53178 l D h1 36 fn 0 cI (by first | assumption | decide | omega) sz) (va_cwS 2 hts gX7_beUntold_J7_fill_53178 rfl rfl rfl (by decide +kernel) ⟨Nat.le_of_ble_eq_true rfl, Nat.le_of_ble_eq_true rfl⟩) rfl (Nat.le_of_ble_eq_true rfl) ⟨Nat.le_of_ble_eq_true rfl, Nat.le_of_ble_eq_true rfl⟩ dX7_beUntold_5 (fun _ hw_2 => ?_)
  show gG p l e (gR 3 0 0 71) s m args below meth c D A 1 Q 0 0 [(h0, .inr (6, [.ref h1, .ref h2, .ref h3, .ref h4])), (h2, .inr (2, [.ref c2, .int l2, .ref s2, .ref w2, .int 0, .int 0, .int 0, .int 0, .int 0])), (c2, .inl (cI, 80, .inl f2)), (h3, .inr (2, [.ref c3, .int l3, .ref s3, .ref w3, .int 0, .int 0, .int 0, .int 0, .int 0])), (c3, .inl (cI, 80, .inl f3)), (h4, .inr (2, [.ref c4, .int l4, .ref s4, .ref w4, .int 0, .int 0, .int 0, .int 0, .int 0])), (c4, .inl (cI, 80, .inl f4)), (h1, .inl (cI, 36, .inl (fun _ => 0)))] [(cI, .int)] [(0, .ref h0)] 8 []
  refine g_untold F Z w_1 dX7_beUntold_8 ?_
  refine g_iconst F 0 dX7_beUntold_11 (by decide) ?_
  refine g_aload_n F 0 dX7_beUntold_12 rfl rfl ?_
  refine g_get (C := RX7) (T := TX7) (N := 4) (v := .ref h1) F i_X7 0 rfl rfl 0 (by decide) w_0 rfl rfl dX7_beUntold_13 ?_
  refine g_iconst F 0 dX7_beUntold_16 (by decide) ?_
  refine g_untold F Z w_1 dX7_beUntold_17 ?_
  refine g_untoldLen F Z dX7_beUntold_20 ?_
  refine g_copyx F Z w_2 w_3 w_4 w_5 7 0 rfl rfl (by decide) (by decide) (by decide) (by decide) (by decide) (Nat.le_of_ble_eq_true rfl) (Nat.le_of_ble_eq_true rfl) [(h0, .inr (6, [.ref h1, .ref h2, .ref h3, .ref h4])), (h2, .inr (2, [.ref c2, .int l2, .ref s2, .ref w2, .int 0, .int 0, .int 0, .int 0, .int 0])), (c2, .inl (cI, 80, .inl f2)), (h3, .inr (2, [.ref c3, .int l3, .ref s3, .ref w3, .int 0, .int 0, .int 0, .int 0, .int 0])), (c3, .inl (cI, 80, .inl f3)), (h4, .inr (2, [.ref c4, .int l4, .ref s4, .ref w4, .int 0, .int 0, .int 0, .int 0, .int 0])), (c4, .inl (cI, 80, .inl f4)), (h1, .inl (cI, 36, .inl (va_cpy gz_untold (fun _ => 0) (0 : Int32).toNatClampNeg (0 : Int32).toNatClampNeg (12 : Int32).toNatClampNeg)))] rfl dX7_beUntold_21 ?_
  refine g_cell 7 g_nums rfl (fun j hj => by
    unfold g_nums va_cpy
    by_cases e9 : j < 12
    · simp [e9]
    · simp [e9]) [(h0, .inr (6, [.ref h1, .ref h2, .ref h3, .ref h4])), (h2, .inr (2, [.ref c2, .int l2, .ref s2, .ref w2, .int 0, .int 0, .int 0, .int 0, .int 0])), (c2, .inl (cI, 80, .inl f2)), (h3, .inr (2, [.ref c3, .int l3, .ref s3, .ref w3, .int 0, .int 0, .int 0, .int 0, .int 0])), (c3, .inl (cI, 80, .inl f3)), (h4, .inr (2, [.ref c4, .int l4, .ref s4, .ref w4, .int 0, .int 0, .int 0, .int 0, .int 0])), (c4, .inl (cI, 80, .inl f4)), (h1, .inl (cI, 36, .inl g_nums))] rfl ?_
  refine g_aload_n F 0 dX7_beUntold_24 rfl rfl ?_
  refine g_get (C := RX7) (T := TX7) (N := 4) (v := .ref h2) F i_X7 0 rfl rfl 1 (by decide) w_6 rfl rfl dX7_beUntold_25 ?_
  refine g_callVv (k := 0) (n := 0) (b := h2) (As := []) (st := []) (wc := [(h2, .inr (2, [.ref c2, .int l2, .ref s2, .ref w2, .int 0, .int 0, .int 0, .int 0, .int 0])), (c2, .inl (cI, 80, .inl f2))]) (wr := [(h0, .inr (6, [.ref h1, .ref h2, .ref h3, .ref h4])), (h3, .inr (2, [.ref c3, .int l3, .ref s3, .ref w3, .int 0, .int 0, .int 0, .int 0, .int 0])), (c3, .inl (cI, 80, .inl f3)), (h4, .inr (2, [.ref c4, .int l4, .ref s4, .ref w4, .int 0, .int 0, .int 0, .int 0, .int 0])), (c4, .inl (cI, 80, .inl f4)), (h1, .inl (cI, 36, .inl g_nums))]) F [1, 2] [0, 3, 4, 5, 6, 7] [0] rfl rfl (by decide) rfl (by decide) (by decide) rfl (fun sz => K_X3_beFirstLetter l D h2 c2 s2 w2 cI f2 l2  sz) (cwV 0 hts gX7_beUntold_X3_beFirstLetter rfl rfl rfl (by decide +kernel) ⟨Nat.le_of_ble_eq_true rfl, Nat.le_of_ble_eq_true rfl⟩) rfl 0 rfl rfl (Nat.le_of_ble_eq_true rfl) ⟨Nat.le_of_ble_eq_true rfl, Nat.le_of_ble_eq_true rfl⟩ dX7_beUntold_28 (fun _ hw_7 => ?_)
  show gG p l e (gR 3 0 0 71) s m args below meth c D A 1 Q 0 0 [(h0, .inr (6, [.ref h1, .ref h2, .ref h3, .ref h4])), (h3, .inr (2, [.ref c3, .int l3, .ref s3, .ref w3, .int 0, .int 0, .int 0, .int 0, .int 0])), (c3, .inl (cI, 80, .inl f3)), (h4, .inr (2, [.ref c4, .int l4, .ref s4, .ref w4, .int 0, .int 0, .int 0, .int 0, .int 0])), (c4, .inl (cI, 80, .inl f4)), (h1, .inl (cI, 36, .inl g_nums)), (h2, .inr (2, [.ref c2, .int 1, .ref s2, .ref w2, .int 0, .int 0, .int 0, .int 0, .int 0])), (c2, .inl (cI, 80, .inl (upd f2 0 (-1))))] [(cI, .int)] [(0, .ref h0)] 31 []
  refine g_aload_n F 0 dX7_beUntold_31 rfl rfl ?_
  refine g_get (C := RX7) (T := TX7) (N := 4) (v := .ref h3) F i_X7 0 rfl rfl 2 (by decide) w_7 rfl rfl dX7_beUntold_32 ?_
  refine g_callVv (k := 0) (n := 0) (b := h3) (As := []) (st := []) (wc := [(h3, .inr (2, [.ref c3, .int l3, .ref s3, .ref w3, .int 0, .int 0, .int 0, .int 0, .int 0])), (c3, .inl (cI, 80, .inl f3))]) (wr := [(h0, .inr (6, [.ref h1, .ref h2, .ref h3, .ref h4])), (h4, .inr (2, [.ref c4, .int l4, .ref s4, .ref w4, .int 0, .int 0, .int 0, .int 0, .int 0])), (c4, .inl (cI, 80, .inl f4)), (h1, .inl (cI, 36, .inl g_nums)), (h2, .inr (2, [.ref c2, .int 1, .ref s2, .ref w2, .int 0, .int 0, .int 0, .int 0, .int 0])), (c2, .inl (cI, 80, .inl (upd f2 0 (-1))))]) F [1, 2] [0, 3, 4, 5, 6, 7] [0] rfl rfl (by decide) rfl (by decide) (by decide) rfl (fun sz => K_X3_beZero l D h3 c3 s3 w3 cI f3 l3  sz) (cwV 0 hts gX7_beUntold_X3_beZero rfl rfl rfl (by decide +kernel) ⟨Nat.le_of_ble_eq_true rfl, Nat.le_of_ble_eq_true rfl⟩) rfl 0 rfl rfl (Nat.le_of_ble_eq_true rfl) ⟨Nat.le_of_ble_eq_true rfl, Nat.le_of_ble_eq_true rfl⟩ dX7_beUntold_35 (fun _ hw_12 => ?_)
  show gG p l e (gR 3 0 0 71) s m args below meth c D A 1 Q 0 0 [(h0, .inr (6, [.ref h1, .ref h2, .ref h3, .ref h4])), (h4, .inr (2, [.ref c4, .int l4, .ref s4, .ref w4, .int 0, .int 0, .int 0, .int 0, .int 0])), (c4, .inl (cI, 80, .inl f4)), (h1, .inl (cI, 36, .inl g_nums)), (h2, .inr (2, [.ref c2, .int 1, .ref s2, .ref w2, .int 0, .int 0, .int 0, .int 0, .int 0])), (c2, .inl (cI, 80, .inl (upd f2 0 (-1)))), (h3, .inr (2, [.ref c3, .int 1, .ref s3, .ref w3, .int 0, .int 0, .int 0, .int 0, .int 0])), (c3, .inl (cI, 80, .inl (upd f3 0 0)))] [(cI, .int)] [(0, .ref h0)] 38 []
  refine g_aload_n F 0 dX7_beUntold_38 rfl rfl ?_
  refine g_get (C := RX7) (T := TX7) (N := 4) (v := .ref h4) F i_X7 0 rfl rfl 3 (by decide) w_8 rfl rfl dX7_beUntold_39 ?_
  refine g_callVv (k := 0) (n := 0) (b := h4) (As := []) (st := []) (wc := [(h4, .inr (2, [.ref c4, .int l4, .ref s4, .ref w4, .int 0, .int 0, .int 0, .int 0, .int 0])), (c4, .inl (cI, 80, .inl f4))]) (wr := [(h0, .inr (6, [.ref h1, .ref h2, .ref h3, .ref h4])), (h1, .inl (cI, 36, .inl g_nums)), (h2, .inr (2, [.ref c2, .int 1, .ref s2, .ref w2, .int 0, .int 0, .int 0, .int 0, .int 0])), (c2, .inl (cI, 80, .inl (upd f2 0 (-1)))), (h3, .inr (2, [.ref c3, .int 1, .ref s3, .ref w3, .int 0, .int 0, .int 0, .int 0, .int 0])), (c3, .inl (cI, 80, .inl (upd f3 0 0)))]) F [1, 2] [0, 3, 4, 5, 6, 7] [0] rfl rfl (by decide) rfl (by decide) (by decide) rfl (fun sz => K_X3_beZero l D h4 c4 s4 w4 cI f4 l4  sz) (cwV 0 hts gX7_beUntold_X3_beZero rfl rfl rfl (by decide +kernel) ⟨Nat.le_of_ble_eq_true rfl, Nat.le_of_ble_eq_true rfl⟩) rfl 0 rfl rfl (Nat.le_of_ble_eq_true rfl) ⟨Nat.le_of_ble_eq_true rfl, Nat.le_of_ble_eq_true rfl⟩ dX7_beUntold_42 (fun _ hw_17 => ?_)
  show gG p l e (gR 3 0 0 71) s m args below meth c D A 1 Q 0 0 [(h0, .inr (6, [.ref h1, .ref h2, .ref h3, .ref h4])), (h1, .inl (cI, 36, .inl g_nums)), (h2, .inr (2, [.ref c2, .int 1, .ref s2, .ref w2, .int 0, .int 0, .int 0, .int 0, .int 0])), (c2, .inl (cI, 80, .inl (upd f2 0 (-1)))), (h3, .inr (2, [.ref c3, .int 1, .ref s3, .ref w3, .int 0, .int 0, .int 0, .int 0, .int 0])), (c3, .inl (cI, 80, .inl (upd f3 0 0))), (h4, .inr (2, [.ref c4, .int 1, .ref s4, .ref w4, .int 0, .int 0, .int 0, .int 0, .int 0])), (c4, .inl (cI, 80, .inl (upd f4 0 0)))] [(cI, .int)] [(0, .ref h0)] 45 []
  exact g_vret F hA hQ hr () (trivial) [0, 1, 2, 3, 4, 5, 6, 7] [0] rfl (by decide) rfl rfl dX7_beUntold_45

theorem dX7_init_0 : decode cX7_init 0 = .ok (.aload_n 0, 1) := by decide +kernel
theorem dX7_init_1 : decode cX7_init 1 = .ok (.invokespecial 3, 3) := by decide +kernel
theorem dX7_init_4 : decode cX7_init 4 = .ok (.aload_n 0, 1) := by decide +kernel
theorem dX7_init_5 : decode cX7_init 5 = .ok (.bipush 36, 2) := by decide +kernel
theorem dX7_init_7 : decode cX7_init 7 = .ok (.newarray .int, 2) := by decide +kernel
theorem dX7_init_9 : decode cX7_init 9 = .ok (.putfield 11, 3) := by decide +kernel
theorem dX7_init_12 : decode cX7_init 12 = .ok (.aload_n 0, 1) := by decide +kernel
theorem dX7_init_13 : decode cX7_init 13 = .ok (.new 15, 3) := by decide +kernel
theorem dX7_init_16 : decode cX7_init 16 = .ok (.dup, 1) := by decide +kernel
theorem dX7_init_17 : decode cX7_init 17 = .ok (.invokespecial 17, 3) := by decide +kernel
theorem dX7_init_20 : decode cX7_init 20 = .ok (.putfield 18, 3) := by decide +kernel
theorem dX7_init_23 : decode cX7_init 23 = .ok (.aload_n 0, 1) := by decide +kernel
theorem dX7_init_24 : decode cX7_init 24 = .ok (.new 15, 3) := by decide +kernel
theorem dX7_init_27 : decode cX7_init 27 = .ok (.dup, 1) := by decide +kernel
theorem dX7_init_28 : decode cX7_init 28 = .ok (.invokespecial 17, 3) := by decide +kernel
theorem dX7_init_31 : decode cX7_init 31 = .ok (.putfield 22, 3) := by decide +kernel
theorem dX7_init_34 : decode cX7_init 34 = .ok (.aload_n 0, 1) := by decide +kernel
theorem dX7_init_35 : decode cX7_init 35 = .ok (.new 15, 3) := by decide +kernel
theorem dX7_init_38 : decode cX7_init 38 = .ok (.dup, 1) := by decide +kernel
theorem dX7_init_39 : decode cX7_init 39 = .ok (.invokespecial 17, 3) := by decide +kernel
theorem dX7_init_42 : decode cX7_init 42 = .ok (.putfield 25, 3) := by decide +kernel
theorem dX7_init_45 : decode cX7_init 45 = .ok (.aload_n 0, 1) := by decide +kernel
theorem dX7_init_46 : decode cX7_init 46 = .ok (.invokevirtual 28, 3) := by decide +kernel
theorem dX7_init_49 : decode cX7_init 49 = .ok (.return_, 1) := by decide +kernel
set_option maxRecDepth 20000 in
theorem ggX7_init_X3_init : GoodIn wsX7_init wsX3_init := goodIn_r _ [13, 14, 2, 3, 4, 15, 16, 17, 49, 50, 51, 52, 53, 54, 55, 56, 57] rfl (by decide +kernel)
set_option maxRecDepth 20000 in
theorem gX7_init_X3_init_n17 : GoodIn wsX7_init (wsX3_init) := ggX7_init_X3_init
set_option maxRecDepth 20000 in
theorem ggX7_init_X7_beUntold : GoodIn wsX7_init wsX7_beUntold := goodIn_r _ [22, 5, 23, 24, 25, 26, 27, 9, 10, 11, 28, 29, 30, 31, 32, 33, 34, 8, 35, 36, 37, 38, 39, 40, 15, 41, 42, 43, 44, 45, 46, 47, 48, 49, 50, 51, 52, 53, 54, 55, 56, 57] rfl (by decide +kernel)
set_option maxRecDepth 20000 in
theorem gX7_init_X7_beUntold : GoodIn wsX7_init (wsV RX7 28 RX7 yX7_beUntold wsX7_beUntold) := goodIn_app (goodIn_of _ (by decide +kernel)) ggX7_init_X7_beUntold
set_option maxHeartbeats 4000000 in
set_option maxRecDepth 100000 in
theorem K_X7_init (l : Launch) (D : va_G) (tz : Nat) (h0 : Nat) (cI : ClassId) (sz : Nat) : Kvz l yX7_init wsX7_init 4 91 13 387 D tz [.ref h0] [(h0, .inr (6, [.null, .null, .null, .null]))] [(cI, .int)] sz (fun (u : Nat × Nat × Nat × Nat × Nat × Nat × Nat × Nat × Nat × Nat × Nat × Nat × Nat) => True) (fun (u : Nat × Nat × Nat × Nat × Nat × Nat × Nat × Nat × Nat × Nat × Nat × Nat × Nat) => [(h0, .inr (6, [.ref u.1, .ref u.2.1, .ref u.2.2.1, .ref u.2.2.2.1])), (u.1, .inl (cI, 36, .inl g_nums)), (u.2.1, .inr (2, [.ref u.2.2.2.2.1, .int 1, .ref u.2.2.2.2.2.1, .ref u.2.2.2.2.2.2.1, .int 0, .int 0, .int 0, .int 0, .int 0])), (u.2.2.2.2.1, .inl (cI, 80, .inl (upd (fun _ => 0) 0 (-1)))), (u.2.2.2.2.2.1, .inl (cI, 12, .inl (fun _ => 0))), (u.2.2.2.2.2.2.1, .inl (cI, 16, .inl (fun _ => 0))), (u.2.2.1, .inr (2, [.ref u.2.2.2.2.2.2.2.1, .int 1, .ref u.2.2.2.2.2.2.2.2.1, .ref u.2.2.2.2.2.2.2.2.2.1, .int 0, .int 0, .int 0, .int 0, .int 0])), (u.2.2.2.2.2.2.2.1, .inl (cI, 80, .inl (upd (fun _ => 0) 0 0))), (u.2.2.2.2.2.2.2.2.1, .inl (cI, 12, .inl (fun _ => 0))), (u.2.2.2.2.2.2.2.2.2.1, .inl (cI, 16, .inl (fun _ => 0))), (u.2.2.2.1, .inr (2, [.ref u.2.2.2.2.2.2.2.2.2.2.1, .int 1, .ref u.2.2.2.2.2.2.2.2.2.2.2.1, .ref u.2.2.2.2.2.2.2.2.2.2.2.2, .int 0, .int 0, .int 0, .int 0, .int 0])), (u.2.2.2.2.2.2.2.2.2.2.1, .inl (cI, 80, .inl (upd (fun _ => 0) 0 0))), (u.2.2.2.2.2.2.2.2.2.2.2.1, .inl (cI, 12, .inl (fun _ => 0))), (u.2.2.2.2.2.2.2.2.2.2.2.2, .inl (cI, 16, .inl (fun _ => 0)))]) (fun (_ : Nat × Nat × Nat × Nat × Nat × Nat × Nat × Nat × Nat × Nat × Nat × Nat × Nat) => [(cI, .int)]) := by
  unfold Kvz
  refine g_ofWz (cc := cX7_init) (lv := [(0, .ref h0)]) (by decide) rfl (Nat.le_of_ble_eq_true rfl) rfl ?_
  intro p e s m args below meth c A Q hA hQ Z F hr hnm
  have hts := F.2.2.2.2.1
  have w_0 : (Cond.methodLink RX7 3 objectInit).before args s = true := hts _ (List.mem_of_getElem? (i := 1) rfl)
  have w_1 : (Cond.instanceMethod objectInit).before args s = true := hts _ (List.mem_of_getElem? (i := 2) rfl)
  have w_2 : (Cond.code objectInit ⟨#[0xb1]⟩ 1 none).before args s = true := hts _ (List.mem_of_getElem? (i := 3) rfl)
  have w_3 : (Cond.arrayClass .int).before args s = true := hts _ (List.mem_of_getElem? (i := 4) rfl)
  have w_4 : (Cond.fieldLink RX7 11 "QuietCut$Shop" "numbers" "[I").before args s = true := hts _ (List.mem_of_getElem? (i := 5) rfl)
  have i_X7 : ∀ w ∈ u_ws RX7 TX7 4, w ∈ wsX7_init := fun _ h => List.mem_cons_of_mem _ (List.mem_append_left _ (List.mem_append_right _ h))
  have w_5 : (Cond.classLink RX7 15 RX3).before args s = true := hts _ (List.mem_of_getElem? (i := 6) rfl)
  have w_6 : (Cond.instantiable RX3 9).before args s = true := hts _ (List.mem_of_getElem? (i := 7) rfl)
  have w_7 : (Cond.initialized RX3).before args s = true := hts _ (List.mem_of_getElem? (i := 8) rfl)
  have i_X3 : ∀ w ∈ u_ws RX3 TX3 9, w ∈ wsX7_init := fun _ h => List.mem_cons_of_mem _ (List.mem_append_right _ h)
  have w_8 : (Cond.instanceMethod yX3_init).before args s = true := hts _ (List.mem_of_getElem? (i := 12) rfl)
  have w_9 : (Cond.fieldLink RX7 18 "QuietCut$Shop" "force" "LQuietCut$Formula;").before args s = true := hts _ (List.mem_of_getElem? (i := 9) rfl)
  have w_10 : (Cond.fieldLink RX7 22 "QuietCut$Shop" "wall" "LQuietCut$Formula;").before args s = true := hts _ (List.mem_of_getElem? (i := 10) rfl)
  have w_11 : (Cond.fieldLink RX7 25 "QuietCut$Shop" "wear" "LQuietCut$Formula;").before args s = true := hts _ (List.mem_of_getElem? (i := 11) rfl)
  refine g_aload_n F 0 dX7_init_0 rfl rfl ?_
  refine g_objInit F w_0 w_1 w_2 dX7_init_1 (Nat.le_of_ble_eq_true rfl) (Nat.le_of_ble_eq_true rfl) ?_
  refine g_aload_n F 0 dX7_init_4 rfl rfl ?_
  refine g_bipush F 36 dX7_init_5 (by decide) ?_
  refine g_newi F 0 rfl w_3 36 (by decide) rfl (by decide) (Nat.le_of_ble_eq_true rfl) (Nat.le_of_ble_eq_true rfl) dX7_init_7 (fun h1 => ?_)
  show gG p l e (gR 4 13 387 91) s m args below meth c D A 1 Q 1 36 [(h0, .inr (6, [.null, .null, .null, .null])), (h1, .inl (cI, 36, .inl (fun _ => 0)))] [(cI, .int)] [(0, .ref h0)] 9 [.ref h1, .ref h0]
  refine g_putF (C := RX7) (T := TX7) (N := 4) (ty := (.array .int)) (v := .ref h1) F i_X7 0 rfl rfl 0 (by decide) w_4 rfl tyX7 tyX7_ok nmX7 rfl hnm rfl (by decide +kernel) rfl rfl (Nat.le_of_ble_eq_true rfl) [(h0, .inr (6, [.ref h1, .null, .null, .null])), (h1, .inl (cI, 36, .inl (fun _ => 0)))] rfl dX7_init_9 ?_
  refine g_aload_n F 0 dX7_init_12 rfl rfl ?_
  refine g_new (C := RX3) (T := TX3) (N := 9) (ci := 2) (fs := [.null, .int 0, .null, .null, .int 0, .int 0, .int 0, .int 0, .int 0]) F i_X3 tyX3 tyX3_ok w_5 w_6 w_7 rfl (by decide) (Nat.le_of_ble_eq_true rfl) (Nat.le_of_ble_eq_true rfl) dX7_init_13 (fun h2 => ?_)
  show gG p l e (gR 4 13 387 91) s m args below meth c D A 1 Q 2 45 [(h0, .inr (6, [.ref h1, .null, .null, .null])), (h1, .inl (cI, 36, .inl (fun _ => 0))), (h2, .inr (2, [.null, .int 0, .null, .null, .int 0, .int 0, .int 0, .int 0, .int 0]))] [(cI, .int)] [(0, .ref h0)] 16 [.ref h2, .ref h0]
  refine g_dup F dX7_init_16 rfl ?_
  refine g_callIvn (k := 2) (n := 45) (b := h2) (As := []) (st := [.ref h2, .ref h0]) (wc := [(h2, .inr (2, [.null, .int 0, .null, .null, .int 0, .int 0, .int 0, .int 0, .int 0]))]) (wr := [(h0, .inr (6, [.ref h1, .null, .null, .null])), (h1, .inl (cI, 36, .inl (fun _ => 0)))]) F [2] [0, 1] [0] rfl rfl (by decide) rfl (by decide) (by decide) rfl (fun sz => K_X3_init l D h2 cI  sz) ⟨va_cnB 0 hts gX7_init_X3_init_n17 rfl rfl rfl Z.2.2.2.2.2.2.2.1 w_7 (by decide +kernel) ⟨Nat.le_of_ble_eq_true rfl, Nat.le_of_ble_eq_true rfl⟩, rfl, w_8⟩ rfl (Nat.le_of_ble_eq_true rfl) ⟨Nat.le_of_ble_eq_true rfl, Nat.le_of_ble_eq_true rfl⟩ dX7_init_17 (fun u_0 hw_2 => ?_)
  obtain ⟨c2, s2, w2⟩ := u_0
  show gG p l e (gR 4 13 387 91) s m args below meth c D A 1 Q 5 153 [(h0, .inr (6, [.ref h1, .null, .null, .null])), (h1, .inl (cI, 36, .inl (fun _ => 0))), (h2, .inr (2, [.ref c2, .int 0, .ref s2, .ref w2, .int 0, .int 0, .int 0, .int 0, .int 0])), (c2, .inl (cI, 80, .inl (fun _ => 0))), (s2, .inl (cI, 12, .inl (fun _ => 0))), (w2, .inl (cI, 16, .inl (fun _ => 0)))] [(cI, .int)] [(0, .ref h0)] 20 [.ref h2, .ref h0]
  refine g_putF (C := RX7) (T := TX7) (N := 4) (ty := (.object "QuietCut$Formula")) (v := .ref h2) F i_X7 0 rfl rfl 1 (by decide) w_9 rfl tyX7 tyX7_ok nmX7 rfl hnm rfl (by decide +kernel) rfl rfl (Nat.le_of_ble_eq_true rfl) [(h0, .inr (6, [.ref h1, .ref h2, .null, .null])), (h1, .inl (cI, 36, .inl (fun _ => 0))), (h2, .inr (2, [.ref c2, .int 0, .ref s2, .ref w2, .int 0, .int 0, .int 0, .int 0, .int 0])), (c2, .inl (cI, 80, .inl (fun _ => 0))), (s2, .inl (cI, 12, .inl (fun _ => 0))), (w2, .inl (cI, 16, .inl (fun _ => 0)))] rfl dX7_init_20 ?_
  refine g_aload_n F 0 dX7_init_23 rfl rfl ?_
  refine g_new (C := RX3) (T := TX3) (N := 9) (ci := 2) (fs := [.null, .int 0, .null, .null, .int 0, .int 0, .int 0, .int 0, .int 0]) F i_X3 tyX3 tyX3_ok w_5 w_6 w_7 rfl (by decide) (Nat.le_of_ble_eq_true rfl) (Nat.le_of_ble_eq_true rfl) dX7_init_24 (fun h3 => ?_)
  show gG p l e (gR 4 13 387 91) s m args below meth c D A 1 Q 6 162 [(h0, .inr (6, [.ref h1, .ref h2, .null, .null])), (h1, .inl (cI, 36, .inl (fun _ => 0))), (h2, .inr (2, [.ref c2, .int 0, .ref s2, .ref w2, .int 0, .int 0, .int 0, .int 0, .int 0])), (c2, .inl (cI, 80, .inl (fun _ => 0))), (s2, .inl (cI, 12, .inl (fun _ => 0))), (w2, .inl (cI, 16, .inl (fun _ => 0))), (h3, .inr (2, [.null, .int 0, .null, .null, .int 0, .int 0, .int 0, .int 0, .int 0]))] [(cI, .int)] [(0, .ref h0)] 27 [.ref h3, .ref h0]
  refine g_dup F dX7_init_27 rfl ?_
  refine g_callIvn (k := 6) (n := 162) (b := h3) (As := []) (st := [.ref h3, .ref h0]) (wc := [(h3, .inr (2, [.null, .int 0, .null, .null, .int 0, .int 0, .int 0, .int 0, .int 0]))]) (wr := [(h0, .inr (6, [.ref h1, .ref h2, .null, .null])), (h1, .inl (cI, 36, .inl (fun _ => 0))), (h2, .inr (2, [.ref c2, .int 0, .ref s2, .ref w2, .int 0, .int 0, .int 0, .int 0, .int 0])), (c2, .inl (cI, 80, .inl (fun _ => 0))), (s2, .inl (cI, 12, .inl (fun _ => 0))), (w2, .inl (cI, 16, .inl (fun _ => 0)))]) F [6] [0, 1, 2, 3, 4, 5] [0] rfl rfl (by decide) rfl (by decide) (by decide) rfl (fun sz => K_X3_init l D h3 cI  sz) ⟨va_cnB 0 hts gX7_init_X3_init_n17 rfl rfl rfl Z.2.2.2.2.2.2.2.1 w_7 (by decide +kernel) ⟨Nat.le_of_ble_eq_true rfl, Nat.le_of_ble_eq_true rfl⟩, rfl, w_8⟩ rfl (Nat.le_of_ble_eq_true rfl) ⟨Nat.le_of_ble_eq_true rfl, Nat.le_of_ble_eq_true rfl⟩ dX7_init_28 (fun u_5 hw_7 => ?_)
  obtain ⟨c3, s3, w3⟩ := u_5
  show gG p l e (gR 4 13 387 91) s m args below meth c D A 1 Q 9 270 [(h0, .inr (6, [.ref h1, .ref h2, .null, .null])), (h1, .inl (cI, 36, .inl (fun _ => 0))), (h2, .inr (2, [.ref c2, .int 0, .ref s2, .ref w2, .int 0, .int 0, .int 0, .int 0, .int 0])), (c2, .inl (cI, 80, .inl (fun _ => 0))), (s2, .inl (cI, 12, .inl (fun _ => 0))), (w2, .inl (cI, 16, .inl (fun _ => 0))), (h3, .inr (2, [.ref c3, .int 0, .ref s3, .ref w3, .int 0, .int 0, .int 0, .int 0, .int 0])), (c3, .inl (cI, 80, .inl (fun _ => 0))), (s3, .inl (cI, 12, .inl (fun _ => 0))), (w3, .inl (cI, 16, .inl (fun _ => 0)))] [(cI, .int)] [(0, .ref h0)] 31 [.ref h3, .ref h0]
  refine g_putF (C := RX7) (T := TX7) (N := 4) (ty := (.object "QuietCut$Formula")) (v := .ref h3) F i_X7 0 rfl rfl 2 (by decide) w_10 rfl tyX7 tyX7_ok nmX7 rfl hnm rfl (by decide +kernel) rfl rfl (Nat.le_of_ble_eq_true rfl) [(h0, .inr (6, [.ref h1, .ref h2, .ref h3, .null])), (h1, .inl (cI, 36, .inl (fun _ => 0))), (h2, .inr (2, [.ref c2, .int 0, .ref s2, .ref w2, .int 0, .int 0, .int 0, .int 0, .int 0])), (c2, .inl (cI, 80, .inl (fun _ => 0))), (s2, .inl (cI, 12, .inl (fun _ => 0))), (w2, .inl (cI, 16, .inl (fun _ => 0))), (h3, .inr (2, [.ref c3, .int 0, .ref s3, .ref w3, .int 0, .int 0, .int 0, .int 0, .int 0])), (c3, .inl (cI, 80, .inl (fun _ => 0))), (s3, .inl (cI, 12, .inl (fun _ => 0))), (w3, .inl (cI, 16, .inl (fun _ => 0)))] rfl dX7_init_31 ?_
  refine g_aload_n F 0 dX7_init_34 rfl rfl ?_
  refine g_new (C := RX3) (T := TX3) (N := 9) (ci := 2) (fs := [.null, .int 0, .null, .null, .int 0, .int 0, .int 0, .int 0, .int 0]) F i_X3 tyX3 tyX3_ok w_5 w_6 w_7 rfl (by decide) (Nat.le_of_ble_eq_true rfl) (Nat.le_of_ble_eq_true rfl) dX7_init_35 (fun h4 => ?_)
  show gG p l e (gR 4 13 387 91) s m args below meth c D A 1 Q 10 279 [(h0, .inr (6, [.ref h1, .ref h2, .ref h3, .null])), (h1, .inl (cI, 36, .inl (fun _ => 0))), (h2, .inr (2, [.ref c2, .int 0, .ref s2, .ref w2, .int 0, .int 0, .int 0, .int 0, .int 0])), (c2, .inl (cI, 80, .inl (fun _ => 0))), (s2, .inl (cI, 12, .inl (fun _ => 0))), (w2, .inl (cI, 16, .inl (fun _ => 0))), (h3, .inr (2, [.ref c3, .int 0, .ref s3, .ref w3, .int 0, .int 0, .int 0, .int 0, .int 0])), (c3, .inl (cI, 80, .inl (fun _ => 0))), (s3, .inl (cI, 12, .inl (fun _ => 0))), (w3, .inl (cI, 16, .inl (fun _ => 0))), (h4, .inr (2, [.null, .int 0, .null, .null, .int 0, .int 0, .int 0, .int 0, .int 0]))] [(cI, .int)] [(0, .ref h0)] 38 [.ref h4, .ref h0]
  refine g_dup F dX7_init_38 rfl ?_
  refine g_callIvn (k := 10) (n := 279) (b := h4) (As := []) (st := [.ref h4, .ref h0]) (wc := [(h4, .inr (2, [.null, .int 0, .null, .null, .int 0, .int 0, .int 0, .int 0, .int 0]))]) (wr := [(h0, .inr (6, [.ref h1, .ref h2, .ref h3, .null])), (h1, .inl (cI, 36, .inl (fun _ => 0))), (h2, .inr (2, [.ref c2, .int 0, .ref s2, .ref w2, .int 0, .int 0, .int 0, .int 0, .int 0])), (c2, .inl (cI, 80, .inl (fun _ => 0))), (s2, .inl (cI, 12, .inl (fun _ => 0))), (w2, .inl (cI, 16, .inl (fun _ => 0))), (h3, .inr (2, [.ref c3, .int 0, .ref s3, .ref w3, .int 0, .int 0, .int 0, .int 0, .int 0])), (c3, .inl (cI, 80, .inl (fun _ => 0))), (s3, .inl (cI, 12, .inl (fun _ => 0))), (w3, .inl (cI, 16, .inl (fun _ => 0)))]) F [10] [0, 1, 2, 3, 4, 5, 6, 7, 8, 9] [0] rfl rfl (by decide) rfl (by decide) (by decide) rfl (fun sz => K_X3_init l D h4 cI  sz) ⟨va_cnB 0 hts gX7_init_X3_init_n17 rfl rfl rfl Z.2.2.2.2.2.2.2.1 w_7 (by decide +kernel) ⟨Nat.le_of_ble_eq_true rfl, Nat.le_of_ble_eq_true rfl⟩, rfl, w_8⟩ rfl (Nat.le_of_ble_eq_true rfl) ⟨Nat.le_of_ble_eq_true rfl, Nat.le_of_ble_eq_true rfl⟩ dX7_init_39 (fun u_10 hw_12 => ?_)
  obtain ⟨c4, s4, w4⟩ := u_10
  show gG p l e (gR 4 13 387 91) s m args below meth c D A 1 Q 13 387 [(h0, .inr (6, [.ref h1, .ref h2, .ref h3, .null])), (h1, .inl (cI, 36, .inl (fun _ => 0))), (h2, .inr (2, [.ref c2, .int 0, .ref s2, .ref w2, .int 0, .int 0, .int 0, .int 0, .int 0])), (c2, .inl (cI, 80, .inl (fun _ => 0))), (s2, .inl (cI, 12, .inl (fun _ => 0))), (w2, .inl (cI, 16, .inl (fun _ => 0))), (h3, .inr (2, [.ref c3, .int 0, .ref s3, .ref w3, .int 0, .int 0, .int 0, .int 0, .int 0])), (c3, .inl (cI, 80, .inl (fun _ => 0))), (s3, .inl (cI, 12, .inl (fun _ => 0))), (w3, .inl (cI, 16, .inl (fun _ => 0))), (h4, .inr (2, [.ref c4, .int 0, .ref s4, .ref w4, .int 0, .int 0, .int 0, .int 0, .int 0])), (c4, .inl (cI, 80, .inl (fun _ => 0))), (s4, .inl (cI, 12, .inl (fun _ => 0))), (w4, .inl (cI, 16, .inl (fun _ => 0)))] [(cI, .int)] [(0, .ref h0)] 42 [.ref h4, .ref h0]
  refine g_putF (C := RX7) (T := TX7) (N := 4) (ty := (.object "QuietCut$Formula")) (v := .ref h4) F i_X7 0 rfl rfl 3 (by decide) w_11 rfl tyX7 tyX7_ok nmX7 rfl hnm rfl (by decide +kernel) rfl rfl (Nat.le_of_ble_eq_true rfl) [(h0, .inr (6, [.ref h1, .ref h2, .ref h3, .ref h4])), (h1, .inl (cI, 36, .inl (fun _ => 0))), (h2, .inr (2, [.ref c2, .int 0, .ref s2, .ref w2, .int 0, .int 0, .int 0, .int 0, .int 0])), (c2, .inl (cI, 80, .inl (fun _ => 0))), (s2, .inl (cI, 12, .inl (fun _ => 0))), (w2, .inl (cI, 16, .inl (fun _ => 0))), (h3, .inr (2, [.ref c3, .int 0, .ref s3, .ref w3, .int 0, .int 0, .int 0, .int 0, .int 0])), (c3, .inl (cI, 80, .inl (fun _ => 0))), (s3, .inl (cI, 12, .inl (fun _ => 0))), (w3, .inl (cI, 16, .inl (fun _ => 0))), (h4, .inr (2, [.ref c4, .int 0, .ref s4, .ref w4, .int 0, .int 0, .int 0, .int 0, .int 0])), (c4, .inl (cI, 80, .inl (fun _ => 0))), (s4, .inl (cI, 12, .inl (fun _ => 0))), (w4, .inl (cI, 16, .inl (fun _ => 0)))] rfl dX7_init_42 ?_
  refine g_aload_n F 0 dX7_init_45 rfl rfl ?_
  refine g_callVvz (k := 13) (n := 387) (b := h0) (As := []) (st := []) (wc := [(h0, .inr (6, [.ref h1, .ref h2, .ref h3, .ref h4])), (h1, .inl (cI, 36, .inl (fun _ => 0))), (h2, .inr (2, [.ref c2, .int 0, .ref s2, .ref w2, .int 0, .int 0, .int 0, .int 0, .int 0])), (c2, .inl (cI, 80, .inl (fun _ => 0))), (h3, .inr (2, [.ref c3, .int 0, .ref s3, .ref w3, .int 0, .int 0, .int 0, .int 0, .int 0])), (c3, .inl (cI, 80, .inl (fun _ => 0))), (h4, .inr (2, [.ref c4, .int 0, .ref s4, .ref w4, .int 0, .int 0, .int 0, .int 0, .int 0])), (c4, .inl (cI, 80, .inl (fun _ => 0)))]) (wr := [(s2, .inl (cI, 12, .inl (fun _ => 0))), (w2, .inl (cI, 16, .inl (fun _ => 0))), (s3, .inl (cI, 12, .inl (fun _ => 0))), (w3, .inl (cI, 16, .inl (fun _ => 0))), (s4, .inl (cI, 12, .inl (fun _ => 0))), (w4, .inl (cI, 16, .inl (fun _ => 0)))]) F [0, 1, 2, 3, 6, 7, 10, 11] [4, 5, 8, 9, 12, 13] [0] rfl rfl (by decide) rfl (by decide) (by decide) rfl Z (fun sz => K_X7_beUntold l D tz h0 h1 h2 h3 h4 c2 s2 w2 c3 s3 w3 c4 s4 w4 cI (fun _ => 0) (fun _ => 0) (fun _ => 0) (fun _ => 0) 0 0 0  sz) (cwV 0 hts gX7_init_X7_beUntold rfl rfl rfl (by decide +kernel) ⟨Nat.le_of_ble_eq_true rfl, Nat.le_of_ble_eq_true rfl⟩) rfl 0 rfl rfl (Nat.le_of_ble_eq_true rfl) ⟨Nat.le_of_ble_eq_true rfl, Nat.le_of_ble_eq_true rfl⟩ dX7_init_46 (fun _ hw_17 => ?_)
  show gG p l e (gR 4 13 387 91) s m args below meth c D A 1 Q 13 387 [(s2, .inl (cI, 12, .inl (fun _ => 0))), (w2, .inl (cI, 16, .inl (fun _ => 0))), (s3, .inl (cI, 12, .inl (fun _ => 0))), (w3, .inl (cI, 16, .inl (fun _ => 0))), (s4, .inl (cI, 12, .inl (fun _ => 0))), (w4, .inl (cI, 16, .inl (fun _ => 0))), (h0, .inr (6, [.ref h1, .ref h2, .ref h3, .ref h4])), (h1, .inl (cI, 36, .inl g_nums)), (h2, .inr (2, [.ref c2, .int 1, .ref s2, .ref w2, .int 0, .int 0, .int 0, .int 0, .int 0])), (c2, .inl (cI, 80, .inl (upd (fun _ => 0) 0 (-1)))), (h3, .inr (2, [.ref c3, .int 1, .ref s3, .ref w3, .int 0, .int 0, .int 0, .int 0, .int 0])), (c3, .inl (cI, 80, .inl (upd (fun _ => 0) 0 0))), (h4, .inr (2, [.ref c4, .int 1, .ref s4, .ref w4, .int 0, .int 0, .int 0, .int 0, .int 0])), (c4, .inl (cI, 80, .inl (upd (fun _ => 0) 0 0)))] [(cI, .int)] [(0, .ref h0)] 49 []
  exact g_vret F hA hQ hr (h1, h2, h3, h4, c2, s2, w2, c3, s3, w3, c4, s4, w4) (trivial) [6, 7, 8, 9, 0, 1, 10, 11, 2, 3, 12, 13, 4, 5] [0] rfl (by decide) rfl rfl dX7_init_49
