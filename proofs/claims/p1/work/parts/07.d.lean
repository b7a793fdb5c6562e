theorem dX10_rewind_0 : decode cX10_rewind 0 = .ok (.aload_n 0, 1) := by decide +kernel
theorem dX10_rewind_1 : decode cX10_rewind 1 = .ok (.iconst 0, 1) := by decide +kernel
theorem dX10_rewind_2 : decode cX10_rewind 2 = .ok (.putfield 17, 3) := by decide +kernel
theorem dX10_rewind_5 : decode cX10_rewind 5 = .ok (.return_, 1) := by decide +kernel
set_option maxHeartbeats 4000000 in
set_option maxRecDepth 100000 in
theorem K_X10_rewind (l : Launch) (D : va_G) (xt : Nat) (tb : Nat) (ln : Int32) (at_ : Int32) (kd : Int32) (pl_ : Int32) (vl : Int32) (sz : Nat) : Kv l yX10_rewind wsX10_rewind 1 30 0 0 D [.ref xt] [(xt, .inr (9, [.ref tb, .int ln, .int at_, .int kd, .int pl_, .int vl]))] [] sz (fun (_ : Unit) => True) (fun (_ : Unit) => [(xt, .inr (9, [.ref tb, .int ln, .int 0, .int kd, .int pl_, .int vl]))]) (fun (_ : Unit) => []) := by
  unfold Kv
  refine g_ofW (cc := cX10_rewind) (lv := [(0, .ref xt)]) (by decide) rfl (Nat.le_of_ble_eq_true rfl) rfl ?_
  intro p e s m args below meth c A Q hA hQ F hr hnm
  have hts := F.2.2.2.2.1
  have w_0 : (Cond.fieldLink RX10 17 "QuietCut$Tape" "at" "I").before args s = true := hts _ (List.mem_of_getElem? (i := 1) rfl)
  have i_X10 : ∀ w ∈ u_ws RX10 TX10 6, w ∈ wsX10_rewind := fun _ h => List.mem_cons_of_mem _ (List.mem_append_right _ h)
  refine g_aload_n F 0 dX10_rewind_0 rfl rfl ?_
  refine g_iconst F 0 dX10_rewind_1 (by decide) ?_
  refine g_put (C := RX10) (T := TX10) (N := 6) (ty := .int) (v := .int 0) F i_X10 0 rfl rfl 2 (by decide) w_0 rfl tyX10 tyX10_ok nmX10 rfl (by decide +kernel) rfl rfl (Nat.le_of_ble_eq_true rfl) [(xt, .inr (9, [.ref tb, .int ln, .int 0, .int kd, .int pl_, .int vl]))] rfl dX10_rewind_2 ?_
  exact g_vret F hA hQ hr () (trivial) [0] [] rfl (by decide) rfl rfl dX10_rewind_5

theorem dX10_byteAt_0 : decode cX10_byteAt 0 = .ok (.iload_n 1, 1) := by decide +kernel
theorem dX10_byteAt_1 : decode cX10_byteAt 1 = .ok (.ifCond .lt 24, 3) := by decide +kernel
theorem dX10_byteAt_4 : decode cX10_byteAt 4 = .ok (.iload_n 1, 1) := by decide +kernel
theorem dX10_byteAt_5 : decode cX10_byteAt 5 = .ok (.aload_n 0, 1) := by decide +kernel
theorem dX10_byteAt_6 : decode cX10_byteAt 6 = .ok (.getfield 13, 3) := by decide +kernel
theorem dX10_byteAt_9 : decode cX10_byteAt 9 = .ok (.if_icmp .ge 16, 3) := by decide +kernel
theorem dX10_byteAt_12 : decode cX10_byteAt 12 = .ok (.aload_n 0, 1) := by decide +kernel
theorem dX10_byteAt_13 : decode cX10_byteAt 13 = .ok (.getfield 9, 3) := by decide +kernel
theorem dX10_byteAt_16 : decode cX10_byteAt 16 = .ok (.iload_n 1, 1) := by decide +kernel
theorem dX10_byteAt_17 : decode cX10_byteAt 17 = .ok (.baload, 1) := by decide +kernel
theorem dX10_byteAt_18 : decode cX10_byteAt 18 = .ok (.sipush 255, 3) := by decide +kernel
theorem dX10_byteAt_21 : decode cX10_byteAt 21 = .ok (.iand, 1) := by decide +kernel
theorem dX10_byteAt_22 : decode cX10_byteAt 22 = .ok (.goto 4, 3) := by decide +kernel
theorem dX10_byteAt_25 : decode cX10_byteAt 25 = .ok (.iconst 0, 1) := by decide +kernel
theorem dX10_byteAt_26 : decode cX10_byteAt 26 = .ok (.ireturn, 1) := by decide +kernel
set_option maxHeartbeats 4000000 in
set_option maxRecDepth 100000 in
theorem K_X10_byteAt0 (l : Launch) (D : va_G) (xt : Nat) (tb : Nat) (kd : Int32) (pl_ : Int32) (vl : Int32) (sz : Nat) : Ki l yX10_byteAt wsX10_byteAt 1 30 0 0 D [.ref xt, .int 0] [(xt, .inr (9, [.ref tb, .int 0, .int 0, .int kd, .int pl_, .int vl]))] [] sz (fun (r : Int32) (_ : Unit) => r = 0) (fun (_ : Unit) => [(xt, .inr (9, [.ref tb, .int 0, .int 0, .int kd, .int pl_, .int vl]))]) (fun (_ : Unit) => []) := by
  unfold Ki
  refine g_ofW (cc := cX10_byteAt) (lv := [(0, .ref xt), (1, .int 0)]) (by decide) rfl (Nat.le_of_ble_eq_true rfl) rfl ?_
  intro p e s m args below meth c A Q hA hQ F hr hnm
  have hts := F.2.2.2.2.1
  have w_0 : (Cond.fieldLink RX10 13 "QuietCut$Tape" "length" "I").before args s = true := hts _ (List.mem_of_getElem? (i := 1) rfl)
  have i_X10 : ∀ w ∈ u_ws RX10 TX10 6, w ∈ wsX10_byteAt := fun _ h => List.mem_cons_of_mem _ (List.mem_append_right _ h)
  refine g_iload_n F 1 dX10_byteAt_0 rfl rfl ?_
  refine g_if_lt F 25 dX10_byteAt_1 (by decide) (fun h9 => absurd h9 (by decide)) (fun c_1 => ?_)
  refine g_iload_n F 1 dX10_byteAt_4 rfl rfl ?_
  refine g_aload_n F 0 dX10_byteAt_5 rfl rfl ?_
  refine g_get (C := RX10) (T := TX10) (N := 6) (v := .int 0) F i_X10 0 rfl rfl 1 (by decide) w_0 rfl rfl dX10_byteAt_6 ?_
  refine g_icmp_ge F 25 dX10_byteAt_9 (by decide) (fun c_9 => ?_) (fun h9 => absurd (by decide) h9) 
  refine g_iconst F 0 dX10_byteAt_25 (by decide) ?_
  exact g_iret F hA hQ hr () (rfl) [0] [] rfl (by decide) rfl rfl dX10_byteAt_26

theorem dX10_readToken_0 : decode cX10_readToken 0 = .ok (.aload_n 0, 1) := by decide +kernel
theorem dX10_readToken_1 : decode cX10_readToken 1 = .ok (.getfield 17, 3) := by decide +kernel
theorem dX10_readToken_4 : decode cX10_readToken 4 = .ok (.aload_n 0, 1) := by decide +kernel
theorem dX10_readToken_5 : decode cX10_readToken 5 = .ok (.getfield 13, 3) := by decide +kernel
theorem dX10_readToken_8 : decode cX10_readToken 8 = .ok (.if_icmp .ge 30, 3) := by decide +kernel
theorem dX10_readToken_11 : decode cX10_readToken 11 = .ok (.aload_n 0, 1) := by decide +kernel
theorem dX10_readToken_12 : decode cX10_readToken 12 = .ok (.aload_n 0, 1) := by decide +kernel
theorem dX10_readToken_13 : decode cX10_readToken 13 = .ok (.getfield 17, 3) := by decide +kernel
theorem dX10_readToken_16 : decode cX10_readToken 16 = .ok (.invokevirtual 20, 3) := by decide +kernel
theorem dX10_readToken_19 : decode cX10_readToken 19 = .ok (.invokestatic 24, 3) := by decide +kernel
theorem dX10_readToken_22 : decode cX10_readToken 22 = .ok (.ifCond .eq 16, 3) := by decide +kernel
theorem dX10_readToken_25 : decode cX10_readToken 25 = .ok (.aload_n 0, 1) := by decide +kernel
theorem dX10_readToken_26 : decode cX10_readToken 26 = .ok (.dup, 1) := by decide +kernel
theorem dX10_readToken_27 : decode cX10_readToken 27 = .ok (.getfield 17, 3) := by decide +kernel
theorem dX10_readToken_30 : decode cX10_readToken 30 = .ok (.iconst 1, 1) := by decide +kernel
theorem dX10_readToken_31 : decode cX10_readToken 31 = .ok (.iadd, 1) := by decide +kernel
theorem dX10_readToken_32 : decode cX10_readToken 32 = .ok (.putfield 17, 3) := by decide +kernel
theorem dX10_readToken_35 : decode cX10_readToken 35 = .ok (.goto (-35), 3) := by decide +kernel
theorem dX10_readToken_38 : decode cX10_readToken 38 = .ok (.aload_n 0, 1) := by decide +kernel
theorem dX10_readToken_39 : decode cX10_readToken 39 = .ok (.aload_n 0, 1) := by decide +kernel
theorem dX10_readToken_40 : decode cX10_readToken 40 = .ok (.getfield 17, 3) := by decide +kernel
theorem dX10_readToken_43 : decode cX10_readToken 43 = .ok (.putfield 28, 3) := by decide +kernel
theorem dX10_readToken_46 : decode cX10_readToken 46 = .ok (.aload_n 0, 1) := by decide +kernel
theorem dX10_readToken_47 : decode cX10_readToken 47 = .ok (.iconst 0, 1) := by decide +kernel
theorem dX10_readToken_48 : decode cX10_readToken 48 = .ok (.putfield 31, 3) := by decide +kernel
theorem dX10_readToken_51 : decode cX10_readToken 51 = .ok (.aload_n 0, 1) := by decide +kernel
theorem dX10_readToken_52 : decode cX10_readToken 52 = .ok (.aload_n 0, 1) := by decide +kernel
theorem dX10_readToken_53 : decode cX10_readToken 53 = .ok (.getfield 17, 3) := by decide +kernel
theorem dX10_readToken_56 : decode cX10_readToken 56 = .ok (.invokevirtual 20, 3) := by decide +kernel
theorem dX10_readToken_59 : decode cX10_readToken 59 = .ok (.istore_n 1, 1) := by decide +kernel
theorem dX10_readToken_60 : decode cX10_readToken 60 = .ok (.aload_n 0, 1) := by decide +kernel
theorem dX10_readToken_61 : decode cX10_readToken 61 = .ok (.getfield 17, 3) := by decide +kernel
theorem dX10_readToken_64 : decode cX10_readToken 64 = .ok (.aload_n 0, 1) := by decide +kernel
theorem dX10_readToken_65 : decode cX10_readToken 65 = .ok (.getfield 13, 3) := by decide +kernel
theorem dX10_readToken_68 : decode cX10_readToken 68 = .ok (.if_icmp .lt 11, 3) := by decide +kernel
theorem dX10_readToken_71 : decode cX10_readToken 71 = .ok (.aload_n 0, 1) := by decide +kernel
theorem dX10_readToken_72 : decode cX10_readToken 72 = .ok (.iconst 0, 1) := by decide +kernel
theorem dX10_readToken_73 : decode cX10_readToken 73 = .ok (.putfield 34, 3) := by decide +kernel
theorem dX10_readToken_76 : decode cX10_readToken 76 = .ok (.goto 66, 3) := by decide +kernel
theorem dX10_readToken_79 : decode cX10_readToken 79 = .ok (.iload_n 1, 1) := by decide +kernel
theorem dX10_readToken_80 : decode cX10_readToken 80 = .ok (.invokestatic 37, 3) := by decide +kernel
theorem dX10_readToken_83 : decode cX10_readToken 83 = .ok (.ifCond .eq 11, 3) := by decide +kernel
theorem dX10_readToken_86 : decode cX10_readToken 86 = .ok (.aload_n 0, 1) := by decide +kernel
theorem dX10_readToken_87 : decode cX10_readToken 87 = .ok (.iload_n 1, 1) := by decide +kernel
theorem dX10_readToken_88 : decode cX10_readToken 88 = .ok (.invokevirtual 40, 3) := by decide +kernel
theorem dX10_readToken_91 : decode cX10_readToken 91 = .ok (.goto 51, 3) := by decide +kernel
theorem dX10_readToken_94 : decode cX10_readToken 94 = .ok (.iload_n 1, 1) := by decide +kernel
theorem dX10_readToken_95 : decode cX10_readToken 95 = .ok (.invokestatic 44, 3) := by decide +kernel
theorem dX10_readToken_98 : decode cX10_readToken 98 = .ok (.ifCond .eq 10, 3) := by decide +kernel
theorem dX10_readToken_101 : decode cX10_readToken 101 = .ok (.aload_n 0, 1) := by decide +kernel
theorem dX10_readToken_102 : decode cX10_readToken 102 = .ok (.invokevirtual 47, 3) := by decide +kernel
theorem dX10_readToken_105 : decode cX10_readToken 105 = .ok (.goto 37, 3) := by decide +kernel
theorem dX10_readToken_108 : decode cX10_readToken 108 = .ok (.aload_n 0, 1) := by decide +kernel
theorem dX10_readToken_109 : decode cX10_readToken 109 = .ok (.ldc 50, 2) := by decide +kernel
theorem dX10_readToken_111 : decode cX10_readToken 111 = .ok (.iload_n 1, 1) := by decide +kernel
theorem dX10_readToken_112 : decode cX10_readToken 112 = .ok (.i2c, 1) := by decide +kernel
theorem dX10_readToken_113 : decode cX10_readToken 113 = .ok (.invokevirtual 52, 3) := by decide +kernel
theorem dX10_readToken_116 : decode cX10_readToken 116 = .ok (.ifCond .lt 7, 3) := by decide +kernel
theorem dX10_readToken_119 : decode cX10_readToken 119 = .ok (.iconst 3, 1) := by decide +kernel
theorem dX10_readToken_120 : decode cX10_readToken 120 = .ok (.goto 4, 3) := by decide +kernel
theorem dX10_readToken_123 : decode cX10_readToken 123 = .ok (.iconst 4, 1) := by decide +kernel
theorem dX10_readToken_124 : decode cX10_readToken 124 = .ok (.putfield 34, 3) := by decide +kernel
theorem dX10_readToken_127 : decode cX10_readToken 127 = .ok (.aload_n 0, 1) := by decide +kernel
theorem dX10_readToken_128 : decode cX10_readToken 128 = .ok (.iload_n 1, 1) := by decide +kernel
theorem dX10_readToken_129 : decode cX10_readToken 129 = .ok (.putfield 31, 3) := by decide +kernel
theorem dX10_readToken_132 : decode cX10_readToken 132 = .ok (.aload_n 0, 1) := by decide +kernel
theorem dX10_readToken_133 : decode cX10_readToken 133 = .ok (.dup, 1) := by decide +kernel
theorem dX10_readToken_134 : decode cX10_readToken 134 = .ok (.getfield 17, 3) := by decide +kernel
theorem dX10_readToken_137 : decode cX10_readToken 137 = .ok (.iconst 1, 1) := by decide +kernel
theorem dX10_readToken_138 : decode cX10_readToken 138 = .ok (.iadd, 1) := by decide +kernel
theorem dX10_readToken_139 : decode cX10_readToken 139 = .ok (.putfield 17, 3) := by decide +kernel
theorem dX10_readToken_142 : decode cX10_readToken 142 = .ok (.return_, 1) := by decide +kernel
set_option maxRecDepth 20000 in
theorem ggX10_readToken_X10_byteAt : GoodIn wsX10_readToken wsX10_byteAt := goodIn_r _ [10, 2, 11, 118, 119, 120, 121, 122, 123] rfl (by decide +kernel)
set_option maxRecDepth 20000 in
theorem gX10_readToken_X10_byteAt : GoodIn wsX10_readToken (wsV RX10 20 RX10 yX10_byteAt wsX10_byteAt) := goodIn_app (goodIn_of _ (by decide +kernel)) ggX10_readToken_X10_byteAt
set_option maxHeartbeats 4000000 in
set_option maxRecDepth 100000 in
theorem K_X10_readToken0 (l : Launch) (D : va_G) (xt : Nat) (tb : Nat) (kd : Int32) (pl_ : Int32) (vl : Int32) (sz : Nat) : Kv l yX10_readToken wsX10_readToken 2 51 0 0 D [.ref xt] [(xt, .inr (9, [.ref tb, .int 0, .int 0, .int kd, .int pl_, .int vl]))] [] sz (fun (_ : Unit) => True) (fun (_ : Unit) => [(xt, .inr (9, [.ref tb, .int 0, .int 0, .int 0, .int 0, .int 0]))]) (fun (_ : Unit) => []) := by
  unfold Kv
  refine g_ofW (cc := cX10_readToken) (lv := [(0, .ref xt)]) (by decide) rfl (Nat.le_of_ble_eq_true rfl) rfl ?_
  intro p e s m args below meth c A Q hA hQ F hr hnm
  have hts := F.2.2.2.2.1
  have w_0 : (Cond.fieldLink RX10 17 "QuietCut$Tape" "at" "I").before args s = true := hts _ (List.mem_of_getElem? (i := 1) rfl)
  have i_X10 : ∀ w ∈ u_ws RX10 TX10 6, w ∈ wsX10_readToken := fun _ h => List.mem_cons_of_mem _ (List.mem_append_right _ h)
  have w_1 : (Cond.fieldLink RX10 13 "QuietCut$Tape" "length" "I").before args s = true := hts _ (List.mem_of_getElem? (i := 2) rfl)
  have w_2 : (Cond.fieldLink RX10 28 "QuietCut$Tape" "place" "I").before args s = true := hts _ (List.mem_of_getElem? (i := 3) rfl)
  have w_3 : (Cond.fieldLink RX10 31 "QuietCut$Tape" "value" "I").before args s = true := hts _ (List.mem_of_getElem? (i := 4) rfl)
  have w_4 : (Cond.fieldLink RX10 34 "QuietCut$Tape" "kind" "I").before args s = true := hts _ (List.mem_of_getElem? (i := 5) rfl)
  refine g_aload_n F 0 dX10_readToken_0 rfl rfl ?_
  refine g_get (C := RX10) (T := TX10) (N := 6) (v := .int 0) F i_X10 0 rfl rfl 2 (by decide) w_0 rfl rfl dX10_readToken_1 ?_
  refine g_aload_n F 0 dX10_readToken_4 rfl rfl ?_
  refine g_get (C := RX10) (T := TX10) (N := 6) (v := .int 0) F i_X10 0 rfl rfl 1 (by decide) w_1 rfl rfl dX10_readToken_5 ?_
  refine g_icmp_ge F 38 dX10_readToken_8 (by decide) (fun c_8 => ?_) (fun h9 => absurd (by decide) h9) 
  refine g_aload_n F 0 dX10_readToken_38 rfl rfl ?_
  refine g_aload_n F 0 dX10_readToken_39 rfl rfl ?_
  refine g_get (C := RX10) (T := TX10) (N := 6) (v := .int 0) F i_X10 0 rfl rfl 2 (by decide) w_0 rfl rfl dX10_readToken_40 ?_
  refine g_put (C := RX10) (T := TX10) (N := 6) (ty := .int) (v := .int 0) F i_X10 0 rfl rfl 4 (by decide) w_2 rfl tyX10 tyX10_ok nmX10 rfl (by decide +kernel) rfl rfl (Nat.le_of_ble_eq_true rfl) [(xt, .inr (9, [.ref tb, .int 0, .int 0, .int kd, .int 0, .int vl]))] rfl dX10_readToken_43 ?_
  refine g_aload_n F 0 dX10_readToken_46 rfl rfl ?_
  refine g_iconst F 0 dX10_readToken_47 (by decide) ?_
  refine g_put (C := RX10) (T := TX10) (N := 6) (ty := .int) (v := .int 0) F i_X10 0 rfl rfl 5 (by decide) w_3 rfl tyX10 tyX10_ok nmX10 rfl (by decide +kernel) rfl rfl (Nat.le_of_ble_eq_true rfl) [(xt, .inr (9, [.ref tb, .int 0, .int 0, .int kd, .int 0, .int 0]))] rfl dX10_readToken_48 ?_
  refine g_aload_n F 0 dX10_readToken_51 rfl rfl ?_
  refine g_aload_n F 0 dX10_readToken_52 rfl rfl ?_
  refine g_get (C := RX10) (T := TX10) (N := 6) (v := .int 0) F i_X10 0 rfl rfl 2 (by decide) w_0 rfl rfl dX10_readToken_53 ?_
  refine g_callVi (k := 0) (n := 0) (b := xt) (As := [.int 0]) (st := []) (wc := [(xt, .inr (9, [.ref tb, .int 0, .int 0, .int kd, .int 0, .int 0]))]) (wr := []) F [0] [] [] rfl rfl (by decide) rfl (by decide) (by decide) rfl (fun sz => K_X10_byteAt0 l D xt tb kd 0 0  sz) (cwV 1 hts gX10_readToken_X10_byteAt rfl rfl rfl (by decide +kernel) ⟨Nat.le_of_ble_eq_true rfl, Nat.le_of_ble_eq_true rfl⟩) rfl 0 rfl rfl (Nat.le_of_ble_eq_true rfl) ⟨Nat.le_of_ble_eq_true rfl, Nat.le_of_ble_eq_true rfl⟩ dX10_readToken_56 (fun r_1 _ hw_2 => ?_)
  have hw_2 : r_1 = 0 := hw_2
  have e_r_1 := hw_2
  show gG p l e (gR 2 0 0 51) s m args below meth c D A 2 Q 0 0 [(xt, .inr (9, [.ref tb, .int 0, .int 0, .int kd, .int 0, .int 0]))] [] [(0, .ref xt)] 59 [.int r_1]
  refine g_fold 0 e_r_1 ?_
  refine g_istore_n F [(1, .int 0), (0, .ref xt)] dX10_readToken_59 rfl (by decide) rfl ?_
  refine g_aload_n F 1 dX10_readToken_60 rfl rfl ?_
  refine g_get (C := RX10) (T := TX10) (N := 6) (v := .int 0) F i_X10 0 rfl rfl 2 (by decide) w_0 rfl rfl dX10_readToken_61 ?_
  refine g_aload_n F 1 dX10_readToken_64 rfl rfl ?_
  refine g_get (C := RX10) (T := TX10) (N := 6) (v := .int 0) F i_X10 0 rfl rfl 1 (by decide) w_1 rfl rfl dX10_readToken_65 ?_
  refine g_icmp_lt F 79 dX10_readToken_68 (by decide) (fun h9 => absurd h9 (by decide)) (fun c_68 => ?_)
  refine g_aload_n F 1 dX10_readToken_71 rfl rfl ?_
  refine g_iconst F 0 dX10_readToken_72 (by decide) ?_
  refine g_put (C := RX10) (T := TX10) (N := 6) (ty := .int) (v := .int 0) F i_X10 0 rfl rfl 3 (by decide) w_4 rfl tyX10 tyX10_ok nmX10 rfl (by decide +kernel) rfl rfl (Nat.le_of_ble_eq_true rfl) [(xt, .inr (9, [.ref tb, .int 0, .int 0, .int 0, .int 0, .int 0]))] rfl dX10_readToken_73 ?_
  refine g_goto F 142 dX10_readToken_76 (by decide) ?_
  exact g_vret F hA hQ hr () (trivial) [0] [] rfl (by decide) rfl rfl dX10_readToken_142

theorem dX10_isSign_0 : decode cX10_isSign 0 = .ok (.aload_n 0, 1) := by decide +kernel
theorem dX10_isSign_1 : decode cX10_isSign 1 = .ok (.getfield 34, 3) := by decide +kernel
theorem dX10_isSign_4 : decode cX10_isSign 4 = .ok (.iconst 3, 1) := by decide +kernel
theorem dX10_isSign_5 : decode cX10_isSign 5 = .ok (.if_icmp .ne 15, 3) := by decide +kernel
theorem dX10_isSign_8 : decode cX10_isSign 8 = .ok (.aload_n 0, 1) := by decide +kernel
theorem dX10_isSign_9 : decode cX10_isSign 9 = .ok (.getfield 31, 3) := by decide +kernel
theorem dX10_isSign_12 : decode cX10_isSign 12 = .ok (.iload_n 1, 1) := by decide +kernel
theorem dX10_isSign_13 : decode cX10_isSign 13 = .ok (.if_icmp .ne 7, 3) := by decide +kernel
theorem dX10_isSign_16 : decode cX10_isSign 16 = .ok (.iconst 1, 1) := by decide +kernel
theorem dX10_isSign_17 : decode cX10_isSign 17 = .ok (.goto 4, 3) := by decide +kernel
theorem dX10_isSign_20 : decode cX10_isSign 20 = .ok (.iconst 0, 1) := by decide +kernel
theorem dX10_isSign_21 : decode cX10_isSign 21 = .ok (.ireturn, 1) := by decide +kernel
set_option maxHeartbeats 4000000 in
set_option maxRecDepth 100000 in
theorem K_X10_isSign0 (l : Launch) (D : va_G) (xt : Nat) (tb : Nat) (a : Int32) (sz : Nat) : Ki l yX10_isSign wsX10_isSign 1 30 0 0 D [.ref xt, .int a] [(xt, .inr (9, [.ref tb, .int 0, .int 0, .int 0, .int 0, .int 0]))] [] sz (fun (r : Int32) (_ : Unit) => r = 0) (fun (_ : Unit) => [(xt, .inr (9, [.ref tb, .int 0, .int 0, .int 0, .int 0, .int 0]))]) (fun (_ : Unit) => []) := by
  unfold Ki
  refine g_ofW (cc := cX10_isSign) (lv := [(0, .ref xt), (1, .int a)]) (by decide) rfl (Nat.le_of_ble_eq_true rfl) rfl ?_
  intro p e s m args below meth c A Q hA hQ F hr hnm
  have hts := F.2.2.2.2.1
  have w_0 : (Cond.fieldLink RX10 34 "QuietCut$Tape" "kind" "I").before args s = true := hts _ (List.mem_of_getElem? (i := 1) rfl)
  have i_X10 : ∀ w ∈ u_ws RX10 TX10 6, w ∈ wsX10_isSign := fun _ h => List.mem_cons_of_mem _ (List.mem_append_right _ h)
  refine g_aload_n F 0 dX10_isSign_0 rfl rfl ?_
  refine g_get (C := RX10) (T := TX10) (N := 6) (v := .int 0) F i_X10 0 rfl rfl 3 (by decide) w_0 rfl rfl dX10_isSign_1 ?_
  refine g_iconst F 3 dX10_isSign_4 (by decide) ?_
  refine g_icmp_ne F 20 dX10_isSign_5 (by decide) (fun c_5 => ?_) (fun h9 => absurd h9 (by decide)) 
  refine g_iconst F 0 dX10_isSign_20 (by decide) ?_
  exact g_zret F hA hQ hr rfl () (rfl) [0] [] rfl (by decide) rfl rfl dX10_isSign_21

theorem dX9_read_0 : decode cX9_read 0 = .ok (.iconst 0, 1) := by decide +kernel
theorem dX9_read_1 : decode cX9_read 1 = .ok (.istore_n 2, 1) := by decide +kernel
theorem dX9_read_2 : decode cX9_read 2 = .ok (.iconst 0, 1) := by decide +kernel
theorem dX9_read_3 : decode cX9_read 3 = .ok (.istore_n 3, 1) := by decide +kernel
theorem dX9_read_4 : decode cX9_read 4 = .ok (.aload_n 1, 1) := by decide +kernel
theorem dX9_read_5 : decode cX9_read 5 = .ok (.invokevirtual 18, 3) := by decide +kernel
theorem dX9_read_8 : decode cX9_read 8 = .ok (.iconst 0, 1) := by decide +kernel
theorem dX9_read_9 : decode cX9_read 9 = .ok (.istore 4, 2) := by decide +kernel
theorem dX9_read_11 : decode cX9_read 11 = .ok (.iload 4, 2) := by decide +kernel
theorem dX9_read_13 : decode cX9_read 13 = .ok (.sipush 1000, 3) := by decide +kernel
theorem dX9_read_16 : decode cX9_read 16 = .ok (.if_icmp .gt 102, 3) := by decide +kernel
theorem dX9_read_19 : decode cX9_read 19 = .ok (.aload_n 1, 1) := by decide +kernel
theorem dX9_read_20 : decode cX9_read 20 = .ok (.invokevirtual 23, 3) := by decide +kernel
theorem dX9_read_23 : decode cX9_read 23 = .ok (.aload_n 1, 1) := by decide +kernel
theorem dX9_read_24 : decode cX9_read 24 = .ok (.getfield 26, 3) := by decide +kernel
theorem dX9_read_27 : decode cX9_read 27 = .ok (.iconst 2, 1) := by decide +kernel
theorem dX9_read_28 : decode cX9_read 28 = .ok (.if_icmp .ne 42, 3) := by decide +kernel
theorem dX9_read_31 : decode cX9_read 31 = .ok (.iload_n 2, 1) := by decide +kernel
theorem dX9_read_32 : decode cX9_read 32 = .ok (.sipush 150, 3) := by decide +kernel
theorem dX9_read_35 : decode cX9_read 35 = .ok (.if_icmp .lt 5, 3) := by decide +kernel
theorem dX9_read_38 : decode cX9_read 38 = .ok (.iconst 4, 1) := by decide +kernel
theorem dX9_read_39 : decode cX9_read 39 = .ok (.ireturn, 1) := by decide +kernel
theorem dX9_read_40 : decode cX9_read 40 = .ok (.aload_n 0, 1) := by decide +kernel
theorem dX9_read_41 : decode cX9_read 41 = .ok (.getfield 15, 3) := by decide +kernel
theorem dX9_read_44 : decode cX9_read 44 = .ok (.iload_n 2, 1) := by decide +kernel
theorem dX9_read_45 : decode cX9_read 45 = .ok (.iload_n 3, 1) := by decide +kernel
theorem dX9_read_46 : decode cX9_read 46 = .ok (.ifCond .eq 11, 3) := by decide +kernel
theorem dX9_read_49 : decode cX9_read 49 = .ok (.aload_n 1, 1) := by decide +kernel
theorem dX9_read_50 : decode cX9_read 50 = .ok (.getfield 30, 3) := by decide +kernel
theorem dX9_read_53 : decode cX9_read 53 = .ok (.ineg, 1) := by decide +kernel
theorem dX9_read_54 : decode cX9_read 54 = .ok (.goto 7, 3) := by decide +kernel
theorem dX9_read_57 : decode cX9_read 57 = .ok (.aload_n 1, 1) := by decide +kernel
theorem dX9_read_58 : decode cX9_read 58 = .ok (.getfield 30, 3) := by decide +kernel
theorem dX9_read_61 : decode cX9_read 61 = .ok (.iastore, 1) := by decide +kernel
theorem dX9_read_62 : decode cX9_read 62 = .ok (.iinc 2 1, 3) := by decide +kernel
theorem dX9_read_65 : decode cX9_read 65 = .ok (.iconst 0, 1) := by decide +kernel
theorem dX9_read_66 : decode cX9_read 66 = .ok (.istore_n 3, 1) := by decide +kernel
theorem dX9_read_67 : decode cX9_read 67 = .ok (.goto 45, 3) := by decide +kernel
theorem dX9_read_70 : decode cX9_read 70 = .ok (.aload_n 1, 1) := by decide +kernel
theorem dX9_read_71 : decode cX9_read 71 = .ok (.bipush 45, 2) := by decide +kernel
theorem dX9_read_73 : decode cX9_read 73 = .ok (.invokevirtual 33, 3) := by decide +kernel
theorem dX9_read_76 : decode cX9_read 76 = .ok (.ifCond .eq 12, 3) := by decide +kernel
theorem dX9_read_79 : decode cX9_read 79 = .ok (.iload_n 3, 1) := by decide +kernel
theorem dX9_read_80 : decode cX9_read 80 = .ok (.ifCond .ne 8, 3) := by decide +kernel
theorem dX9_read_83 : decode cX9_read 83 = .ok (.iconst 1, 1) := by decide +kernel
theorem dX9_read_84 : decode cX9_read 84 = .ok (.istore_n 3, 1) := by decide +kernel
theorem dX9_read_85 : decode cX9_read 85 = .ok (.goto 27, 3) := by decide +kernel
theorem dX9_read_88 : decode cX9_read 88 = .ok (.aload_n 1, 1) := by decide +kernel
theorem dX9_read_89 : decode cX9_read 89 = .ok (.getfield 26, 3) := by decide +kernel
theorem dX9_read_92 : decode cX9_read 92 = .ok (.ifCond .ne 18, 3) := by decide +kernel
theorem dX9_read_95 : decode cX9_read 95 = .ok (.iload_n 2, 1) := by decide +kernel
theorem dX9_read_96 : decode cX9_read 96 = .ok (.ifCond .le 14, 3) := by decide +kernel
theorem dX9_read_99 : decode cX9_read 99 = .ok (.iload_n 3, 1) := by decide +kernel
theorem dX9_read_100 : decode cX9_read 100 = .ok (.ifCond .ne 10, 3) := by decide +kernel
theorem dX9_read_103 : decode cX9_read 103 = .ok (.aload_n 0, 1) := by decide +kernel
theorem dX9_read_104 : decode cX9_read 104 = .ok (.iload_n 2, 1) := by decide +kernel
theorem dX9_read_105 : decode cX9_read 105 = .ok (.invokevirtual 37, 3) := by decide +kernel
theorem dX9_read_108 : decode cX9_read 108 = .ok (.iconst 0, 1) := by decide +kernel
theorem dX9_read_109 : decode cX9_read 109 = .ok (.ireturn, 1) := by decide +kernel
theorem dX9_read_110 : decode cX9_read 110 = .ok (.iconst 1, 1) := by decide +kernel
theorem dX9_read_111 : decode cX9_read 111 = .ok (.ireturn, 1) := by decide +kernel
theorem dX9_read_112 : decode cX9_read 112 = .ok (.iinc 4 1, 3) := by decide +kernel
theorem dX9_read_115 : decode cX9_read 115 = .ok (.goto (-104), 3) := by decide +kernel
theorem dX9_read_118 : decode cX9_read 118 = .ok (.iconst 1, 1) := by decide +kernel
theorem dX9_read_119 : decode cX9_read 119 = .ok (.ireturn, 1) := by decide +kernel
set_option maxRecDepth 20000 in
theorem ggX9_read_X10_isSign : GoodIn wsX9_read wsX10_isSign := goodIn_r _ [132, 17, 16, 144, 145, 146, 147, 148, 149] rfl (by decide +kernel)
set_option maxRecDepth 20000 in
theorem gX9_read_X10_isSign : GoodIn wsX9_read (wsV RX9 33 RX10 yX10_isSign wsX10_isSign) := goodIn_app (goodIn_of _ (by decide +kernel)) ggX9_read_X10_isSign
set_option maxRecDepth 20000 in
theorem ggX9_read_X10_readToken : GoodIn wsX9_read wsX10_readToken := goodIn_r _ [13, 9, 14, 15, 16, 17, 18, 19, 20, 7, 21, 22, 23, 24, 25, 26, 27, 28, 29, 30, 31, 32, 33, 34, 35, 36, 37, 38, 39, 40, 41, 42, 43, 44, 45, 46, 47, 48, 49, 50, 51, 52, 53, 54, 55, 56, 57, 58, 59, 60, 61, 62, 63, 64, 65, 66, 67, 68, 69, 70, 71, 72, 73, 74, 75, 76, 77, 78, 79, 80, 81, 82, 83, 84, 85, 86, 87, 88, 89, 90, 91, 92, 93, 94, 95, 96, 97, 98, 99, 100, 101, 102, 103, 104, 105, 106, 107, 108, 109, 110, 111, 112, 113, 114, 115, 116, 117, 118, 119, 120, 121, 122, 123, 124, 125, 126, 127, 128, 144, 145, 146, 147, 148, 149] rfl (by decide +kernel)
set_option maxRecDepth 20000 in
theorem gX9_read_X10_readToken : GoodIn wsX9_read (wsV RX9 23 RX10 yX10_readToken wsX10_readToken) := goodIn_app (goodIn_of _ (by decide +kernel)) ggX9_read_X10_readToken
set_option maxRecDepth 20000 in
theorem ggX9_read_X10_rewind : GoodIn wsX9_read wsX10_rewind := goodIn_r _ [8, 9, 144, 145, 146, 147, 148, 149] rfl (by decide +kernel)
set_option maxRecDepth 20000 in
theorem gX9_read_X10_rewind : GoodIn wsX9_read (wsV RX9 18 RX10 yX10_rewind wsX10_rewind) := goodIn_app (goodIn_of _ (by decide +kernel)) ggX9_read_X10_rewind
set_option maxHeartbeats 4000000 in
set_option maxRecDepth 100000 in
theorem K_X9_read0 (l : Launch) (D : va_G) (xo : Nat) (sn : Nat) (sp : Nat) (xt : Nat) (tb : Nat) (sz : Nat) : Ki l yX9_read wsX9_read 3 72 0 0 D [.ref xo, .ref xt] [(xo, .inr (8, [.ref sn, .ref sp, .int 0])), (xt, .inr (9, [.ref tb, .int 0, .int 0, .int 0, .int 0, .int 0]))] [] sz (fun (r : Int32) (_ : Unit) => r = 1) (fun (_ : Unit) => [(xo, .inr (8, [.ref sn, .ref sp, .int 0])), (xt, .inr (9, [.ref tb, .int 0, .int 0, .int 0, .int 0, .int 0]))]) (fun (_ : Unit) => []) := by
  unfold Ki
  refine g_ofW (cc := cX9_read) (lv := [(0, .ref xo), (1, .ref xt)]) (by decide) rfl (Nat.le_of_ble_eq_true rfl) rfl ?_
  intro p e s m args below meth c A Q hA hQ F hr hnm
  have hts := F.2.2.2.2.1
  have w_0 : (Cond.fieldLink RX9 26 "QuietCut$Tape" "kind" "I").before args s = true := hts _ (List.mem_of_getElem? (i := 1) rfl)
  have i_X10 : ∀ w ∈ u_ws RX10 TX10 6, w ∈ wsX9_read := fun _ h => List.mem_cons_of_mem _ (List.mem_append_left _ (List.mem_append_right _ h))
  refine g_iconst F 0 dX9_read_0 (by decide) ?_
  refine g_istore_n F [(2, .int 0), (0, .ref xo), (1, .ref xt)] dX9_read_1 rfl (by decide) rfl ?_
  refine g_iconst F 0 dX9_read_2 (by decide) ?_
  refine g_istore_n F [(3, .int 0), (2, .int 0), (0, .ref xo), (1, .ref xt)] dX9_read_3 rfl (by decide) rfl ?_
  refine g_aload_n F 3 dX9_read_4 rfl rfl ?_
  refine g_callVv (k := 0) (n := 0) (b := xt) (As := []) (st := []) (wc := [(xt, .inr (9, [.ref tb, .int 0, .int 0, .int 0, .int 0, .int 0]))]) (wr := [(xo, .inr (8, [.ref sn, .ref sp, .int 0]))]) F [1] [0] [] rfl rfl (by decide) rfl (by decide) (by decide) rfl (fun sz => K_X10_rewind l D xt tb 0 0 0 0 0  sz) (cwV 0 hts gX9_read_X10_rewind rfl rfl rfl (by decide +kernel) ⟨Nat.le_of_ble_eq_true rfl, Nat.le_of_ble_eq_true rfl⟩) rfl 0 rfl rfl (Nat.le_of_ble_eq_true rfl) ⟨Nat.le_of_ble_eq_true rfl, Nat.le_of_ble_eq_true rfl⟩ dX9_read_5 (fun _ hw_2 => ?_)
  show gG p l e (gR 3 0 0 72) s m args below meth c D A 5 Q 0 0 [(xo, .inr (8, [.ref sn, .ref sp, .int 0])), (xt, .inr (9, [.ref tb, .int 0, .int 0, .int 0, .int 0, .int 0]))] [] [(3, .int 0), (2, .int 0), (0, .ref xo), (1, .ref xt)] 8 []
  refine g_iconst F 0 dX9_read_8 (by decide) ?_
  refine g_istore F [(4, .int 0), (3, .int 0), (2, .int 0), (0, .ref xo), (1, .ref xt)] dX9_read_9 (by decide) rfl ?_
  refine g_iload F 0 dX9_read_11 rfl ?_
  refine g_sipush F 1000 dX9_read_13 (by decide) ?_
  refine g_icmp_gt F 118 dX9_read_16 (by decide) (fun h9 => absurd h9 (by decide)) (fun c_16 => ?_)
  refine g_aload_n F 4 dX9_read_19 rfl rfl ?_
  refine g_callVv (k := 0) (n := 0) (b := xt) (As := []) (st := []) (wc := [(xt, .inr (9, [.ref tb, .int 0, .int 0, .int 0, .int 0, .int 0]))]) (wr := [(xo, .inr (8, [.ref sn, .ref sp, .int 0]))]) F [1] [0] [] rfl rfl (by decide) rfl (by decide) (by decide) rfl (fun sz => K_X10_readToken0 l D xt tb 0 0 0  sz) (cwV 0 hts gX9_read_X10_readToken rfl rfl rfl (by decide +kernel) ⟨Nat.le_of_ble_eq_true rfl, Nat.le_of_ble_eq_true rfl⟩) rfl 0 rfl rfl (Nat.le_of_ble_eq_true rfl) ⟨Nat.le_of_ble_eq_true rfl, Nat.le_of_ble_eq_true rfl⟩ dX9_read_20 (fun _ hw_7 => ?_)
  show gG p l e (gR 3 0 0 72) s m args below meth c D A 5 Q 0 0 [(xo, .inr (8, [.ref sn, .ref sp, .int 0])), (xt, .inr (9, [.ref tb, .int 0, .int 0, .int 0, .int 0, .int 0]))] [] [(4, .int 0), (3, .int 0), (2, .int 0), (0, .ref xo), (1, .ref xt)] 23 []
  refine g_aload_n F 4 dX9_read_23 rfl rfl ?_
  refine g_get (C := RX10) (T := TX10) (N := 6) (v := .int 0) F i_X10 1 rfl rfl 3 (by decide) w_0 rfl rfl dX9_read_24 ?_
  refine g_iconst F 2 dX9_read_27 (by decide) ?_
  refine g_icmp_ne F 70 dX9_read_28 (by decide) (fun c_28 => ?_) (fun h9 => absurd h9 (by decide)) 
  refine g_aload_n F 4 dX9_read_70 rfl rfl ?_
  refine g_bipush F 45 dX9_read_71 (by decide) ?_
  refine g_callVi (k := 0) (n := 0) (b := xt) (As := [.int 45]) (st := []) (wc := [(xt, .inr (9, [.ref tb, .int 0, .int 0, .int 0, .int 0, .int 0]))]) (wr := [(xo, .inr (8, [.ref sn, .ref sp, .int 0]))]) F [1] [0] [] rfl rfl (by decide) rfl (by decide) (by decide) rfl (fun sz => K_X10_isSign0 l D xt tb 45  sz) (cwV 1 hts gX9_read_X10_isSign rfl rfl rfl (by decide +kernel) ⟨Nat.le_of_ble_eq_true rfl, Nat.le_of_ble_eq_true rfl⟩) rfl 0 rfl rfl (Nat.le_of_ble_eq_true rfl) ⟨Nat.le_of_ble_eq_true rfl, Nat.le_of_ble_eq_true rfl⟩ dX9_read_73 (fun r_11 _ hw_12 => ?_)
  have hw_12 : r_11 = 0 := hw_12
  have e_r_11 := hw_12
  show gG p l e (gR 3 0 0 72) s m args below meth c D A 5 Q 0 0 [(xo, .inr (8, [.ref sn, .ref sp, .int 0])), (xt, .inr (9, [.ref tb, .int 0, .int 0, .int 0, .int 0, .int 0]))] [] [(4, .int 0), (3, .int 0), (2, .int 0), (0, .ref xo), (1, .ref xt)] 76 [.int r_11]
  refine g_fold 0 e_r_11 ?_
  refine g_if_eq F 88 dX9_read_76 (by decide) (fun c_76 => ?_) (fun h9 => absurd (by decide) h9) 
  refine g_aload_n F 4 dX9_read_88 rfl rfl ?_
  refine g_get (C := RX10) (T := TX10) (N := 6) (v := .int 0) F i_X10 1 rfl rfl 3 (by decide) w_0 rfl rfl dX9_read_89 ?_
  refine g_if_ne F 110 dX9_read_92 (by decide) (fun h9 => absurd (by decide) h9) (fun c_92 => ?_)
  refine g_iload_n F 2 dX9_read_95 rfl rfl ?_
  refine g_if_le F 110 dX9_read_96 (by decide) (fun c_96 => ?_) (fun h9 => absurd (by decide) h9) 
  refine g_iconst F 1 dX9_read_110 (by decide) ?_
  exact g_iret F hA hQ hr () (rfl) [0, 1] [] rfl (by decide) rfl rfl dX9_read_111

theorem dX11_noteFault_0 : decode cX11_noteFault 0 = .ok (.aload_n 0, 1) := by decide +kernel
theorem dX11_noteFault_1 : decode cX11_noteFault 1 = .ok (.iload_n 1, 1) := by decide +kernel
theorem dX11_noteFault_2 : decode cX11_noteFault 2 = .ok (.putfield 111, 3) := by decide +kernel
theorem dX11_noteFault_5 : decode cX11_noteFault 5 = .ok (.aload_n 0, 1) := by decide +kernel
theorem dX11_noteFault_6 : decode cX11_noteFault 6 = .ok (.iload_n 1, 1) := by decide +kernel
theorem dX11_noteFault_7 : decode cX11_noteFault 7 = .ok (.ifCond .ne 7, 3) := by decide +kernel
theorem dX11_noteFault_10 : decode cX11_noteFault 10 = .ok (.iconst (-1), 1) := by decide +kernel
theorem dX11_noteFault_11 : decode cX11_noteFault 11 = .ok (.goto 10, 3) := by decide +kernel
theorem dX11_noteFault_14 : decode cX11_noteFault 14 = .ok (.aload_n 0, 1) := by decide +kernel
theorem dX11_noteFault_15 : decode cX11_noteFault 15 = .ok (.getfield 12, 3) := by decide +kernel
theorem dX11_noteFault_18 : decode cX11_noteFault 18 = .ok (.getfield 127, 3) := by decide +kernel
theorem dX11_noteFault_21 : decode cX11_noteFault 21 = .ok (.putfield 89, 3) := by decide +kernel
theorem dX11_noteFault_24 : decode cX11_noteFault 24 = .ok (.aload_n 0, 1) := by decide +kernel
theorem dX11_noteFault_25 : decode cX11_noteFault 25 = .ok (.getfield 12, 3) := by decide +kernel
theorem dX11_noteFault_28 : decode cX11_noteFault 28 = .ok (.iconst 0, 1) := by decide +kernel
theorem dX11_noteFault_29 : decode cX11_noteFault 29 = .ok (.putfield 101, 3) := by decide +kernel
theorem dX11_noteFault_32 : decode cX11_noteFault 32 = .ok (.return_, 1) := by decide +kernel
set_option maxHeartbeats 4000000 in
set_option maxRecDepth 100000 in
theorem K_X11_noteFault0 (l : Launch) (D : va_G) (x0 : Nat) (xt : Nat) (xs : Nat) (xq : Nat) (xr : Nat) (xp : Nat) (xl : Nat) (xc : Nat) (xj : Nat) (xe : Nat) (xo : Nat) (pa : Nat) (tb : Nat) (sz : Nat) : Kv l yX11_noteFault wsX11_noteFault 1 40 0 0 D [.ref x0, .int 0] [(x0, .inr (10, [.ref xt, .ref xs, .ref xq, .ref xr, .ref xp, .ref xl, .ref xc, .ref xj, .ref xe, .ref xo, .ref pa, .int 0, .int 0, .int (-1)])), (xt, .inr (9, [.ref tb, .int 0, .int 0, .int 0, .int 0, .int 0]))] [] sz (fun (_ : Unit) => True) (fun (_ : Unit) => [(x0, .inr (10, [.ref xt, .ref xs, .ref xq, .ref xr, .ref xp, .ref xl, .ref xc, .ref xj, .ref xe, .ref xo, .ref pa, .int 0, .int 0, .int (-1)])), (xt, .inr (9, [.ref tb, .int 0, .int 0, .int 0, .int 0, .int 0]))]) (fun (_ : Unit) => []) := by
  unfold Kv
  refine g_ofW (cc := cX11_noteFault) (lv := [(0, .ref x0), (1, .int 0)]) (by decide) rfl (Nat.le_of_ble_eq_true rfl) rfl ?_
  intro p e s m args below meth c A Q hA hQ F hr hnm
  have hts := F.2.2.2.2.1
  have w_0 : (Cond.fieldLink RX11 111 "QuietCut" "faultKind" "I").before args s = true := hts _ (List.mem_of_getElem? (i := 1) rfl)
  have i_X11 : ∀ w ∈ u_ws RX11 TX11 14, w ∈ wsX11_noteFault := fun _ h => List.mem_cons_of_mem _ (List.mem_append_left _ (List.mem_append_right _ h))
  have w_1 : (Cond.fieldLink RX11 89 "QuietCut" "faultPlace" "I").before args s = true := hts _ (List.mem_of_getElem? (i := 4) rfl)
  have w_2 : (Cond.fieldLink RX11 12 "QuietCut" "tape" "LQuietCut$Tape;").before args s = true := hts _ (List.mem_of_getElem? (i := 2) rfl)
  have w_3 : (Cond.fieldLink RX11 101 "QuietCut$Tape" "length" "I").before args s = true := hts _ (List.mem_of_getElem? (i := 5) rfl)
  have i_X10 : ∀ w ∈ u_ws RX10 TX10 6, w ∈ wsX11_noteFault := fun _ h => List.mem_cons_of_mem _ (List.mem_append_right _ h)
  refine g_aload_n F 0 dX11_noteFault_0 rfl rfl ?_
  refine g_iload_n F 1 dX11_noteFault_1 rfl rfl ?_
  refine g_put (C := RX11) (T := TX11) (N := 14) (ty := .int) (v := .int 0) F i_X11 0 rfl rfl 12 (by decide) w_0 rfl tyX11 tyX11_ok nmX11 rfl (by decide +kernel) rfl rfl (Nat.le_of_ble_eq_true rfl) [(x0, .inr (10, [.ref xt, .ref xs, .ref xq, .ref xr, .ref xp, .ref xl, .ref xc, .ref xj, .ref xe, .ref xo, .ref pa, .int 0, .int 0, .int (-1)])), (xt, .inr (9, [.ref tb, .int 0, .int 0, .int 0, .int 0, .int 0]))] rfl dX11_noteFault_2 ?_
  refine g_aload_n F 0 dX11_noteFault_5 rfl rfl ?_
  refine g_iload_n F 1 dX11_noteFault_6 rfl rfl ?_
  refine g_if_ne F 14 dX11_noteFault_7 (by decide) (fun h9 => absurd (by decide) h9) (fun c_7 => ?_)
  refine g_iconst F (-1) dX11_noteFault_10 (by decide) ?_
  refine g_goto F 21 dX11_noteFault_11 (by decide) ?_
  refine g_put (C := RX11) (T := TX11) (N := 14) (ty := .int) (v := .int (-1)) F i_X11 0 rfl rfl 13 (by decide) w_1 rfl tyX11 tyX11_ok nmX11 rfl (by decide +kernel) rfl rfl (Nat.le_of_ble_eq_true rfl) [(x0, .inr (10, [.ref xt, .ref xs, .ref xq, .ref xr, .ref xp, .ref xl, .ref xc, .ref xj, .ref xe, .ref xo, .ref pa, .int 0, .int 0, .int (-1)])), (xt, .inr (9, [.ref tb, .int 0, .int 0, .int 0, .int 0, .int 0]))] rfl dX11_noteFault_21 ?_
  refine g_aload_n F 0 dX11_noteFault_24 rfl rfl ?_
  refine g_get (C := RX11) (T := TX11) (N := 14) (v := .ref xt) F i_X11 0 rfl rfl 0 (by decide) w_2 rfl rfl dX11_noteFault_25 ?_
  refine g_iconst F 0 dX11_noteFault_28 (by decide) ?_
  refine g_put (C := RX10) (T := TX10) (N := 6) (ty := .int) (v := .int 0) F i_X10 1 rfl rfl 1 (by decide) w_3 rfl tyX10 tyX10_ok nmX10 rfl (by decide +kernel) rfl rfl (Nat.le_of_ble_eq_true rfl) [(x0, .inr (10, [.ref xt, .ref xs, .ref xq, .ref xr, .ref xp, .ref xl, .ref xc, .ref xj, .ref xe, .ref xo, .ref pa, .int 0, .int 0, .int (-1)])), (xt, .inr (9, [.ref tb, .int 0, .int 0, .int 0, .int 0, .int 0]))] rfl dX11_noteFault_29 ?_
  exact g_vret F hA hQ hr () (trivial) [0, 1] [] rfl (by decide) rfl rfl dX11_noteFault_32


set_option maxHeartbeats 4000000 in
set_option maxRecDepth 100000 in
theorem K_X11_noteFault1 (l : Launch) (D : va_G) (x0 : Nat) (xt : Nat) (xs : Nat) (xq : Nat) (xr : Nat) (xp : Nat) (xl : Nat) (xc : Nat) (xj : Nat) (xe : Nat) (xo : Nat) (pa : Nat) (tb : Nat) (sz : Nat) : Kv l yX11_noteFault wsX11_noteFault 1 40 0 0 D [.ref x0, .int 1] [(x0, .inr (10, [.ref xt, .ref xs, .ref xq, .ref xr, .ref xp, .ref xl, .ref xc, .ref xj, .ref xe, .ref xo, .ref pa, .int 0, .int 0, .int (-1)])), (xt, .inr (9, [.ref tb, .int 0, .int 0, .int 0, .int 0, .int 0]))] [] sz (fun (_ : Unit) => True) (fun (_ : Unit) => [(x0, .inr (10, [.ref xt, .ref xs, .ref xq, .ref xr, .ref xp, .ref xl, .ref xc, .ref xj, .ref xe, .ref xo, .ref pa, .int 0, .int 1, .int 0])), (xt, .inr (9, [.ref tb, .int 0, .int 0, .int 0, .int 0, .int 0]))]) (fun (_ : Unit) => []) := by
  unfold Kv
  refine g_ofW (cc := cX11_noteFault) (lv := [(0, .ref x0), (1, .int 1)]) (by decide) rfl (Nat.le_of_ble_eq_true rfl) rfl ?_
  intro p e s m args below meth c A Q hA hQ F hr hnm
  have hts := F.2.2.2.2.1
  have w_0 : (Cond.fieldLink RX11 111 "QuietCut" "faultKind" "I").before args s = true := hts _ (List.mem_of_getElem? (i := 1) rfl)
  have i_X11 : ∀ w ∈ u_ws RX11 TX11 14, w ∈ wsX11_noteFault := fun _ h => List.mem_cons_of_mem _ (List.mem_append_left _ (List.mem_append_right _ h))
  have w_1 : (Cond.fieldLink RX11 12 "QuietCut" "tape" "LQuietCut$Tape;").before args s = true := hts _ (List.mem_of_getElem? (i := 2) rfl)
  have w_2 : (Cond.fieldLink RX11 127 "QuietCut$Tape" "place" "I").before args s = true := hts _ (List.mem_of_getElem? (i := 3) rfl)
  have i_X10 : ∀ w ∈ u_ws RX10 TX10 6, w ∈ wsX11_noteFault := fun _ h => List.mem_cons_of_mem _ (List.mem_append_right _ h)
  have w_3 : (Cond.fieldLink RX11 89 "QuietCut" "faultPlace" "I").before args s = true := hts _ (List.mem_of_getElem? (i := 4) rfl)
  have w_4 : (Cond.fieldLink RX11 101 "QuietCut$Tape" "length" "I").before args s = true := hts _ (List.mem_of_getElem? (i := 5) rfl)
  refine g_aload_n F 0 dX11_noteFault_0 rfl rfl ?_
  refine g_iload_n F 1 dX11_noteFault_1 rfl rfl ?_
  refine g_put (C := RX11) (T := TX11) (N := 14) (ty := .int) (v := .int 1) F i_X11 0 rfl rfl 12 (by decide) w_0 rfl tyX11 tyX11_ok nmX11 rfl (by decide +kernel) rfl rfl (Nat.le_of_ble_eq_true rfl) [(x0, .inr (10, [.ref xt, .ref xs, .ref xq, .ref xr, .ref xp, .ref xl, .ref xc, .ref xj, .ref xe, .ref xo, .ref pa, .int 0, .int 1, .int (-1)])), (xt, .inr (9, [.ref tb, .int 0, .int 0, .int 0, .int 0, .int 0]))] rfl dX11_noteFault_2 ?_
  refine g_aload_n F 0 dX11_noteFault_5 rfl rfl ?_
  refine g_iload_n F 1 dX11_noteFault_6 rfl rfl ?_
  refine g_if_ne F 14 dX11_noteFault_7 (by decide) (fun c_7 => ?_) (fun h9 => absurd h9 (by decide)) 
  refine g_aload_n F 0 dX11_noteFault_14 rfl rfl ?_
  refine g_get (C := RX11) (T := TX11) (N := 14) (v := .ref xt) F i_X11 0 rfl rfl 0 (by decide) w_1 rfl rfl dX11_noteFault_15 ?_
  refine g_get (C := RX10) (T := TX10) (N := 6) (v := .int 0) F i_X10 1 rfl rfl 4 (by decide) w_2 rfl rfl dX11_noteFault_18 ?_
  refine g_put (C := RX11) (T := TX11) (N := 14) (ty := .int) (v := .int 0) F i_X11 0 rfl rfl 13 (by decide) w_3 rfl tyX11 tyX11_ok nmX11 rfl (by decide +kernel) rfl rfl (Nat.le_of_ble_eq_true rfl) [(x0, .inr (10, [.ref xt, .ref xs, .ref xq, .ref xr, .ref xp, .ref xl, .ref xc, .ref xj, .ref xe, .ref xo, .ref pa, .int 0, .int 1, .int 0])), (xt, .inr (9, [.ref tb, .int 0, .int 0, .int 0, .int 0, .int 0]))] rfl dX11_noteFault_21 ?_
  refine g_aload_n F 0 dX11_noteFault_24 rfl rfl ?_
  refine g_get (C := RX11) (T := TX11) (N := 14) (v := .ref xt) F i_X11 0 rfl rfl 0 (by decide) w_1 rfl rfl dX11_noteFault_25 ?_
  refine g_iconst F 0 dX11_noteFault_28 (by decide) ?_
  refine g_put (C := RX10) (T := TX10) (N := 6) (ty := .int) (v := .int 0) F i_X10 1 rfl rfl 1 (by decide) w_4 rfl tyX10 tyX10_ok nmX10 rfl (by decide +kernel) rfl rfl (Nat.le_of_ble_eq_true rfl) [(x0, .inr (10, [.ref xt, .ref xs, .ref xq, .ref xr, .ref xp, .ref xl, .ref xc, .ref xj, .ref xe, .ref xo, .ref pa, .int 0, .int 1, .int 0])), (xt, .inr (9, [.ref tb, .int 0, .int 0, .int 0, .int 0, .int 0]))] rfl dX11_noteFault_29 ?_
  exact g_vret F hA hQ hr () (trivial) [0, 1] [] rfl (by decide) rfl rfl dX11_noteFault_32

theorem dX11_sound_0 : decode cX11_sound 0 = .ok (.aload_n 0, 1) := by decide +kernel
theorem dX11_sound_1 : decode cX11_sound 1 = .ok (.aload_n 0, 1) := by decide +kernel
theorem dX11_sound_2 : decode cX11_sound 2 = .ok (.getfield 81, 3) := by decide +kernel
theorem dX11_sound_5 : decode cX11_sound 5 = .ok (.aload_n 0, 1) := by decide +kernel
theorem dX11_sound_6 : decode cX11_sound 6 = .ok (.getfield 12, 3) := by decide +kernel
theorem dX11_sound_9 : decode cX11_sound 9 = .ok (.invokevirtual 264, 3) := by decide +kernel
theorem dX11_sound_12 : decode cX11_sound 12 = .ok (.invokevirtual 108, 3) := by decide +kernel
theorem dX11_sound_15 : decode cX11_sound 15 = .ok (.aload_n 0, 1) := by decide +kernel
theorem dX11_sound_16 : decode cX11_sound 16 = .ok (.getfield 111, 3) := by decide +kernel
theorem dX11_sound_19 : decode cX11_sound 19 = .ok (.ifCond .ne 13, 3) := by decide +kernel
theorem dX11_sound_22 : decode cX11_sound 22 = .ok (.aload_n 0, 1) := by decide +kernel
theorem dX11_sound_23 : decode cX11_sound 23 = .ok (.getfield 81, 3) := by decide +kernel
theorem dX11_sound_26 : decode cX11_sound 26 = .ok (.getfield 267, 3) := by decide +kernel
theorem dX11_sound_29 : decode cX11_sound 29 = .ok (.goto 4, 3) := by decide +kernel
theorem dX11_sound_32 : decode cX11_sound 32 = .ok (.iconst (-1), 1) := by decide +kernel
theorem dX11_sound_33 : decode cX11_sound 33 = .ok (.ireturn, 1) := by decide +kernel
set_option maxRecDepth 20000 in
theorem ggX11_sound_X11_noteFault : GoodIn wsX11_sound wsX11_noteFault := goodIn_r _ [156, 3, 2, 157, 158, 159, 160, 161, 162, 163, 164, 165, 166, 167, 168, 169, 170, 171, 172, 173, 177, 178, 179, 180, 181, 182] rfl (by decide +kernel)
set_option maxRecDepth 20000 in
theorem gX11_sound_X11_noteFault : GoodIn wsX11_sound (wsV RX11 108 RX11 yX11_noteFault wsX11_noteFault) := goodIn_app (goodIn_of _ (by decide +kernel)) ggX11_sound_X11_noteFault
set_option maxRecDepth 20000 in
theorem ggX11_sound_X9_read : GoodIn wsX11_sound wsX9_read := goodIn_r _ [9, 10, 11, 12, 13, 14, 15, 16, 17, 18, 19, 20, 21, 22, 23, 24, 25, 26, 27, 28, 29, 30, 31, 32, 33, 34, 35, 36, 37, 38, 39, 40, 41, 42, 43, 44, 45, 46, 47, 48, 49, 50, 51, 52, 53, 54, 55, 56, 57, 58, 59, 60, 61, 62, 63, 64, 65, 66, 67, 68, 69, 70, 71, 72, 73, 74, 75, 76, 77, 78, 79, 80, 81, 82, 83, 84, 85, 86, 87, 88, 89, 90, 91, 92, 93, 94, 95, 96, 97, 98, 99, 100, 101, 102, 103, 104, 105, 106, 107, 108, 109, 110, 111, 112, 113, 114, 115, 116, 117, 118, 119, 120, 121, 122, 123, 124, 125, 126, 127, 128, 129, 130, 131, 132, 133, 134, 135, 136, 137, 138, 139, 140, 141, 142, 143, 144, 8, 145, 146, 147, 148, 149, 150, 151, 177, 178, 179, 180, 181, 182, 174, 175, 176] rfl (by decide +kernel)
set_option maxRecDepth 20000 in
theorem gX11_sound_X9_read : GoodIn wsX11_sound (wsV RX11 264 RX9 yX9_read wsX9_read) := goodIn_app (goodIn_of _ (by decide +kernel)) ggX11_sound_X9_read
set_option maxHeartbeats 4000000 in
set_option maxRecDepth 100000 in
theorem K_X11_sound (l : Launch) (D : va_G) (x0 : Nat) (xt : Nat) (xs : Nat) (xq : Nat) (xr : Nat) (xp : Nat) (xl : Nat) (xc : Nat) (xj : Nat) (xe : Nat) (xo : Nat) (pa : Nat) (tb : Nat) (sn : Nat) (sp : Nat) (sz : Nat) : Ki l yX11_sound wsX11_sound 4 96 0 0 D [.ref x0] [(x0, .inr (10, [.ref xt, .ref xs, .ref xq, .ref xr, .ref xp, .ref xl, .ref xc, .ref xj, .ref xe, .ref xo, .ref pa, .int 0, .int 0, .int (-1)])), (xt, .inr (9, [.ref tb, .int 0, .int 0, .int 0, .int 0, .int 0])), (xo, .inr (8, [.ref sn, .ref sp, .int 0]))] [] sz (fun (r : Int32) (_ : Unit) => r = (-1)) (fun (_ : Unit) => [(x0, .inr (10, [.ref xt, .ref xs, .ref xq, .ref xr, .ref xp, .ref xl, .ref xc, .ref xj, .ref xe, .ref xo, .ref pa, .int 0, .int 1, .int 0])), (xt, .inr (9, [.ref tb, .int 0, .int 0, .int 0, .int 0, .int 0])), (xo, .inr (8, [.ref sn, .ref sp, .int 0]))]) (fun (_ : Unit) => []) := by
  unfold Ki
  refine g_ofW (cc := cX11_sound) (lv := [(0, .ref x0)]) (by decide) rfl (Nat.le_of_ble_eq_true rfl) rfl ?_
  intro p e s m args below meth c A Q hA hQ F hr hnm
  have hts := F.2.2.2.2.1
  have w_0 : (Cond.fieldLink RX11 81 "QuietCut" "sound" "LQuietCut$Sound;").before args s = true := hts _ (List.mem_of_getElem? (i := 1) rfl)
  have i_X11 : ∀ w ∈ u_ws RX11 TX11 14, w ∈ wsX11_sound := fun _ h => List.mem_cons_of_mem _ (List.mem_append_left _ (List.mem_append_left _ (List.mem_append_right _ h)))
  have w_1 : (Cond.fieldLink RX11 12 "QuietCut" "tape" "LQuietCut$Tape;").before args s = true := hts _ (List.mem_of_getElem? (i := 2) rfl)
  have w_2 : (Cond.fieldLink RX11 111 "QuietCut" "faultKind" "I").before args s = true := hts _ (List.mem_of_getElem? (i := 3) rfl)
  refine g_aload_n F 0 dX11_sound_0 rfl rfl ?_
  refine g_aload_n F 0 dX11_sound_1 rfl rfl ?_
  refine g_get (C := RX11) (T := TX11) (N := 14) (v := .ref xo) F i_X11 0 rfl rfl 9 (by decide) w_0 rfl rfl dX11_sound_2 ?_
  refine g_aload_n F 0 dX11_sound_5 rfl rfl ?_
  refine g_get (C := RX11) (T := TX11) (N := 14) (v := .ref xt) F i_X11 0 rfl rfl 0 (by decide) w_1 rfl rfl dX11_sound_6 ?_
  refine g_callVi (k := 0) (n := 0) (b := xo) (As := [.ref xt]) (st := [.ref x0]) (wc := [(xo, .inr (8, [.ref sn, .ref sp, .int 0])), (xt, .inr (9, [.ref tb, .int 0, .int 0, .int 0, .int 0, .int 0]))]) (wr := [(x0, .inr (10, [.ref xt, .ref xs, .ref xq, .ref xr, .ref xp, .ref xl, .ref xc, .ref xj, .ref xe, .ref xo, .ref pa, .int 0, .int 0, .int (-1)]))]) F [2, 1] [0] [] rfl rfl (by decide) rfl (by decide) (by decide) rfl (fun sz => K_X9_read0 l D xo sn sp xt tb  sz) (cwV 1 hts gX11_sound_X9_read rfl rfl rfl (by decide +kernel) ⟨Nat.le_of_ble_eq_true rfl, Nat.le_of_ble_eq_true rfl⟩) rfl 0 rfl rfl (Nat.le_of_ble_eq_true rfl) ⟨Nat.le_of_ble_eq_true rfl, Nat.le_of_ble_eq_true rfl⟩ dX11_sound_9 (fun r_1 _ hw_2 => ?_)
  have hw_2 : r_1 = 1 := hw_2
  have e_r_1 := hw_2
  show gG p l e (gR 4 0 0 96) s m args below meth c D A 1 Q 0 0 [(x0, .inr (10, [.ref xt, .ref xs, .ref xq, .ref xr, .ref xp, .ref xl, .ref xc, .ref xj, .ref xe, .ref xo, .ref pa, .int 0, .int 0, .int (-1)])), (xo, .inr (8, [.ref sn, .ref sp, .int 0])), (xt, .inr (9, [.ref tb, .int 0, .int 0, .int 0, .int 0, .int 0]))] [] [(0, .ref x0)] 12 [.int r_1, .ref x0]
  refine g_fold 1 e_r_1 ?_
  refine g_callVv (k := 0) (n := 0) (b := x0) (As := [.int 1]) (st := []) (wc := [(x0, .inr (10, [.ref xt, .ref xs, .ref xq, .ref xr, .ref xp, .ref xl, .ref xc, .ref xj, .ref xe, .ref xo, .ref pa, .int 0, .int 0, .int (-1)])), (xt, .inr (9, [.ref tb, .int 0, .int 0, .int 0, .int 0, .int 0]))]) (wr := [(xo, .inr (8, [.ref sn, .ref sp, .int 0]))]) F [0, 2] [1] [] rfl rfl (by decide) rfl (by decide) (by decide) rfl (fun sz => K_X11_noteFault1 l D x0 xt xs xq xr xp xl xc xj xe xo pa tb  sz) (cwV 1 hts gX11_sound_X11_noteFault rfl rfl rfl (by decide +kernel) ⟨Nat.le_of_ble_eq_true rfl, Nat.le_of_ble_eq_true rfl⟩) rfl 0 rfl rfl (Nat.le_of_ble_eq_true rfl) ⟨Nat.le_of_ble_eq_true rfl, Nat.le_of_ble_eq_true rfl⟩ dX11_sound_12 (fun _ hw_7 => ?_)
  show gG p l e (gR 4 0 0 96) s m args below meth c D A 1 Q 0 0 [(xo, .inr (8, [.ref sn, .ref sp, .int 0])), (x0, .inr (10, [.ref xt, .ref xs, .ref xq, .ref xr, .ref xp, .ref xl, .ref xc, .ref xj, .ref xe, .ref xo, .ref pa, .int 0, .int 1, .int 0])), (xt, .inr (9, [.ref tb, .int 0, .int 0, .int 0, .int 0, .int 0]))] [] [(0, .ref x0)] 15 []
  refine g_aload_n F 0 dX11_sound_15 rfl rfl ?_
  refine g_get (C := RX11) (T := TX11) (N := 14) (v := .int 1) F i_X11 1 rfl rfl 12 (by decide) w_2 rfl rfl dX11_sound_16 ?_
  refine g_if_ne F 32 dX11_sound_19 (by decide) (fun c_19 => ?_) (fun h9 => absurd h9 (by decide)) 
  refine g_iconst F (-1) dX11_sound_32 (by decide) ?_
  exact g_iret F hA hQ hr () (rfl) [1, 2, 0] [] rfl (by decide) rfl rfl dX11_sound_33

theorem dX8_read_0 : decode cX8_read 0 = .ok (.aload_n 0, 1) := by decide +kernel
theorem dX8_read_1 : decode cX8_read 1 = .ok (.getfield 15, 3) := by decide +kernel
theorem dX8_read_4 : decode cX8_read 4 = .ok (.invokevirtual 19, 3) := by decide +kernel
theorem dX8_read_7 : decode cX8_read 7 = .ok (.aload_n 0, 1) := by decide +kernel
theorem dX8_read_8 : decode cX8_read 8 = .ok (.iconst 0, 1) := by decide +kernel
theorem dX8_read_9 : decode cX8_read 9 = .ok (.putfield 24, 3) := by decide +kernel
theorem dX8_read_12 : decode cX8_read 12 = .ok (.aload_n 0, 1) := by decide +kernel
theorem dX8_read_13 : decode cX8_read 13 = .ok (.iconst 0, 1) := by decide +kernel
theorem dX8_read_14 : decode cX8_read 14 = .ok (.putfield 28, 3) := by decide +kernel
theorem dX8_read_17 : decode cX8_read 17 = .ok (.aload_n 0, 1) := by decide +kernel
theorem dX8_read_18 : decode cX8_read 18 = .ok (.iconst (-1), 1) := by decide +kernel
theorem dX8_read_19 : decode cX8_read 19 = .ok (.putfield 31, 3) := by decide +kernel
theorem dX8_read_22 : decode cX8_read 22 = .ok (.aload_n 0, 1) := by decide +kernel
theorem dX8_read_23 : decode cX8_read 23 = .ok (.getfield 9, 3) := by decide +kernel
theorem dX8_read_26 : decode cX8_read 26 = .ok (.invokevirtual 34, 3) := by decide +kernel
theorem dX8_read_29 : decode cX8_read 29 = .ok (.iconst 0, 1) := by decide +kernel
theorem dX8_read_30 : decode cX8_read 30 = .ok (.istore_n 1, 1) := by decide +kernel
theorem dX8_read_31 : decode cX8_read 31 = .ok (.iload_n 1, 1) := by decide +kernel
theorem dX8_read_32 : decode cX8_read 32 = .ok (.sipush 1000, 3) := by decide +kernel
theorem dX8_read_35 : decode cX8_read 35 = .ok (.if_icmp .gt 47, 3) := by decide +kernel
theorem dX8_read_38 : decode cX8_read 38 = .ok (.aload_n 0, 1) := by decide +kernel
theorem dX8_read_39 : decode cX8_read 39 = .ok (.getfield 9, 3) := by decide +kernel
theorem dX8_read_42 : decode cX8_read 42 = .ok (.invokevirtual 39, 3) := by decide +kernel
theorem dX8_read_45 : decode cX8_read 45 = .ok (.aload_n 0, 1) := by decide +kernel
theorem dX8_read_46 : decode cX8_read 46 = .ok (.getfield 31, 3) := by decide +kernel
theorem dX8_read_49 : decode cX8_read 49 = .ok (.iconst (-1), 1) := by decide +kernel
theorem dX8_read_50 : decode cX8_read 50 = .ok (.if_icmp .ne 15, 3) := by decide +kernel
theorem dX8_read_53 : decode cX8_read 53 = .ok (.aload_n 0, 1) := by decide +kernel
theorem dX8_read_54 : decode cX8_read 54 = .ok (.getfield 9, 3) := by decide +kernel
theorem dX8_read_57 : decode cX8_read 57 = .ok (.getfield 42, 3) := by decide +kernel
theorem dX8_read_60 : decode cX8_read 60 = .ok (.ifCond .ne 5, 3) := by decide +kernel
theorem dX8_read_63 : decode cX8_read 63 = .ok (.iconst 0, 1) := by decide +kernel
theorem dX8_read_64 : decode cX8_read 64 = .ok (.ireturn, 1) := by decide +kernel
theorem dX8_read_65 : decode cX8_read 65 = .ok (.aload_n 0, 1) := by decide +kernel
theorem dX8_read_66 : decode cX8_read 66 = .ok (.invokevirtual 45, 3) := by decide +kernel
theorem dX8_read_69 : decode cX8_read 69 = .ok (.istore_n 2, 1) := by decide +kernel
theorem dX8_read_70 : decode cX8_read 70 = .ok (.iload_n 2, 1) := by decide +kernel
theorem dX8_read_71 : decode cX8_read 71 = .ok (.ifCond .eq 5, 3) := by decide +kernel
theorem dX8_read_74 : decode cX8_read 74 = .ok (.iload_n 2, 1) := by decide +kernel
theorem dX8_read_75 : decode cX8_read 75 = .ok (.ireturn, 1) := by decide +kernel
theorem dX8_read_76 : decode cX8_read 76 = .ok (.iinc 1 1, 3) := by decide +kernel
theorem dX8_read_79 : decode cX8_read 79 = .ok (.goto (-48), 3) := by decide +kernel
theorem dX8_read_82 : decode cX8_read 82 = .ok (.iconst 1, 1) := by decide +kernel
theorem dX8_read_83 : decode cX8_read 83 = .ok (.ireturn, 1) := by decide +kernel
set_option maxRecDepth 20000 in
theorem ggX8_read_X10_readToken : GoodIn wsX8_read wsX10_readToken := goodIn_r _ [49, 45, 50, 51, 52, 53, 54, 55, 56, 43, 57, 58, 59, 60, 61, 62, 63, 64, 65, 66, 67, 68, 69, 70, 71, 72, 73, 74, 75, 76, 77, 78, 79, 80, 81, 82, 83, 84, 85, 86, 87, 88, 89, 90, 91, 92, 93, 94, 95, 96, 97, 98, 99, 100, 101, 102, 103, 104, 105, 106, 107, 108, 109, 110, 111, 112, 113, 114, 115, 116, 117, 118, 119, 120, 121, 122, 123, 124, 125, 126, 127, 128, 129, 130, 131, 132, 133, 134, 135, 136, 137, 138, 139, 140, 141, 142, 143, 144, 145, 146, 147, 148, 149, 150, 151, 152, 153, 154, 155, 156, 157, 158, 159, 160, 161, 162, 163, 164, 315, 316, 317, 318, 319, 320] rfl (by decide +kernel)
set_option maxRecDepth 20000 in
theorem gX8_read_X10_readToken : GoodIn wsX8_read (wsV RX8 39 RX10 yX10_readToken wsX10_readToken) := goodIn_app (goodIn_of _ (by decide +kernel)) ggX8_read_X10_readToken
set_option maxRecDepth 20000 in
theorem ggX8_read_X10_rewind : GoodIn wsX8_read wsX10_rewind := goodIn_r _ [44, 45, 315, 316, 317, 318, 319, 320] rfl (by decide +kernel)
set_option maxRecDepth 20000 in
theorem gX8_read_X10_rewind : GoodIn wsX8_read (wsV RX8 34 RX10 yX10_rewind wsX10_rewind) := goodIn_app (goodIn_of _ (by decide +kernel)) ggX8_read_X10_rewind
set_option maxRecDepth 20000 in
theorem ggX8_read_X7_beUntold : GoodIn wsX8_read wsX7_beUntold := goodIn_r _ [11, 12, 13, 14, 15, 16, 17, 18, 19, 20, 21, 22, 23, 24, 25, 26, 27, 28, 29, 30, 31, 32, 33, 34, 35, 36, 37, 38, 39, 321, 322, 323, 324, 325, 326, 327, 328, 329, 330, 331, 332, 333] rfl (by decide +kernel)
set_option maxRecDepth 20000 in
theorem gX8_read_X7_beUntold : GoodIn wsX8_read (wsV RX8 19 RX7 yX7_beUntold wsX7_beUntold) := goodIn_app (goodIn_of _ (by decide +kernel)) ggX8_read_X7_beUntold
set_option maxHeartbeats 4000000 in
set_option maxRecDepth 100000 in
theorem K_X8_read (l : Launch) (D : va_G) (tz : Nat) (xr : Nat) (xt : Nat) (xq : Nat) (tb : Nat) (n2 : Nat) (fo2 : Nat) (wa2 : Nat) (we2 : Nat) (cI : ClassId) (cf2 : Nat) (sf2 : Nat) (wf2 : Nat) (cg2 : Nat) (sg2 : Nat) (wg2 : Nat) (ch2 : Nat) (sh2 : Nat) (wh2 : Nat) (sz : Nat) : Kiz l yX8_read wsX8_read 4 91 0 0 D tz [.ref xr] [(xr, .inr (7, [.ref xt, .ref xq, .int 0, .int 0, .int 0, .int 0, .int 0])), (xt, .inr (9, [.ref tb, .int 0, .int 0, .int 0, .int 0, .int 0])), (xq, .inr (6, [.ref n2, .ref fo2, .ref wa2, .ref we2])), (n2, .inl (cI, 36, .inl g_nums)), (fo2, .inr (2, [.ref cf2, .int 1, .ref sf2, .ref wf2, .int 0, .int 0, .int 0, .int 0, .int 0])), (cf2, .inl (cI, 80, .inl (upd (fun _ => 0) 0 (-1)))), (wa2, .inr (2, [.ref cg2, .int 1, .ref sg2, .ref wg2, .int 0, .int 0, .int 0, .int 0, .int 0])), (cg2, .inl (cI, 80, .inl (upd (fun _ => 0) 0 0))), (we2, .inr (2, [.ref ch2, .int 1, .ref sh2, .ref wh2, .int 0, .int 0, .int 0, .int 0, .int 0])), (ch2, .inl (cI, 80, .inl (upd (fun _ => 0) 0 0)))] [(cI, .int)] sz (fun (r : Int32) (u : (Nat → Int32) × (Nat → Int32) × (Nat → Int32)) => r = 0) (fun (u : (Nat → Int32) × (Nat → Int32) × (Nat → Int32)) => [(xr, .inr (7, [.ref xt, .ref xq, .int 0, .int 0, .int (-1), .int 0, .int 0])), (xt, .inr (9, [.ref tb, .int 0, .int 0, .int 0, .int 0, .int 0])), (xq, .inr (6, [.ref n2, .ref fo2, .ref wa2, .ref we2])), (n2, .inl (cI, 36, .inl g_nums)), (fo2, .inr (2, [.ref cf2, .int 1, .ref sf2, .ref wf2, .int 0, .int 0, .int 0, .int 0, .int 0])), (cf2, .inl (cI, 80, .inl u.1)), (wa2, .inr (2, [.ref cg2, .int 1, .ref sg2, .ref wg2, .int 0, .int 0, .int 0, .int 0, .int 0])), (cg2, .inl (cI, 80, .inl u.2.1)), (we2, .inr (2, [.ref ch2, .int 1, .ref sh2, .ref wh2, .int 0, .int 0, .int 0, .int 0, .int 0])), (ch2, .inl (cI, 80, .inl u.2.2))]) (fun (_ : (Nat → Int32) × (Nat → Int32) × (Nat → Int32)) => [(cI, .int)]) := by
  unfold Kiz
  refine g_ofWz (cc := cX8_read) (lv := [(0, .ref xr)]) (by decide) rfl (Nat.le_of_ble_eq_true rfl) rfl ?_
  intro p e s m args below meth c A Q hA hQ Z F hr hnm
  have hts := F.2.2.2.2.1
  have w_0 : (Cond.fieldLink RX8 15 "QuietCut$ShopReader" "target" "LQuietCut$Shop;").before args s = true := hts _ (List.mem_of_getElem? (i := 1) rfl)
  have i_X8 : ∀ w ∈ u_ws RX8 TX8 7, w ∈ wsX8_read := fun _ h => List.mem_cons_of_mem _ (List.mem_append_left _ (List.mem_append_left _ (List.mem_append_left _ (List.mem_append_right _ h))))
  have w_1 : (Cond.fieldLink RX8 24 "QuietCut$ShopReader" "clauses" "I").before args s = true := hts _ (List.mem_of_getElem? (i := 2) rfl)
  have w_2 : (Cond.fieldLink RX8 28 "QuietCut$ShopReader" "wordsTold" "I").before args s = true := hts _ (List.mem_of_getElem? (i := 3) rfl)
  have w_3 : (Cond.fieldLink RX8 31 "QuietCut$ShopReader" "open" "I").before args s = true := hts _ (List.mem_of_getElem? (i := 4) rfl)
  have w_4 : (Cond.fieldLink RX8 9 "QuietCut$ShopReader" "tape" "LQuietCut$Tape;").before args s = true := hts _ (List.mem_of_getElem? (i := 5) rfl)
  have w_5 : (Cond.fieldLink RX8 42 "QuietCut$Tape" "kind" "I").before args s = true := hts _ (List.mem_of_getElem? (i := 6) rfl)
  have i_X10 : ∀ w ∈ u_ws RX10 TX10 6, w ∈ wsX8_read := fun _ h => List.mem_cons_of_mem _ (List.mem_append_left _ (List.mem_append_left _ (List.mem_append_right _ h)))
  refine g_aload_n F 0 dX8_read_0 rfl rfl ?_
  refine g_get (C := RX8) (T := TX8) (N := 7) (v := .ref xq) F i_X8 0 rfl rfl 1 (by decide) w_0 rfl rfl dX8_read_1 ?_
  refine g_callVvz (k := 0) (n := 0) (b := xq) (As := []) (st := []) (wc := [(xq, .inr (6, [.ref n2, .ref fo2, .ref wa2, .ref we2])), (n2, .inl (cI, 36, .inl g_nums)), (fo2, .inr (2, [.ref cf2, .int 1, .ref sf2, .ref wf2, .int 0, .int 0, .int 0, .int 0, .int 0])), (cf2, .inl (cI, 80, .inl (upd (fun _ => 0) 0 (-1)))), (wa2, .inr (2, [.ref cg2, .int 1, .ref sg2, .ref wg2, .int 0, .int 0, .int 0, .int 0, .int 0])), (cg2, .inl (cI, 80, .inl (upd (fun _ => 0) 0 0))), (we2, .inr (2, [.ref ch2, .int 1, .ref sh2, .ref wh2, .int 0, .int 0, .int 0, .int 0, .int 0])), (ch2, .inl (cI, 80, .inl (upd (fun _ => 0) 0 0)))]) (wr := [(xr, .inr (7, [.ref xt, .ref xq, .int 0, .int 0, .int 0, .int 0, .int 0])), (xt, .inr (9, [.ref tb, .int 0, .int 0, .int 0, .int 0, .int 0]))]) F [2, 3, 4, 5, 6, 7, 8, 9] [0, 1] [0] rfl rfl (by decide) rfl (by decide) (by decide) rfl Z (fun sz => K_X7_beUntold l D tz xq n2 fo2 wa2 we2 cf2 sf2 wf2 cg2 sg2 wg2 ch2 sh2 wh2 cI g_nums (upd (fun _ => 0) 0 (-1)) (upd (fun _ => 0) 0 0) (upd (fun _ => 0) 0 0) 1 1 1  sz) (cwV 0 hts gX8_read_X7_beUntold rfl rfl rfl (by decide +kernel) ⟨Nat.le_of_ble_eq_true rfl, Nat.le_of_ble_eq_true rfl⟩) rfl 0 rfl rfl (Nat.le_of_ble_eq_true rfl) ⟨Nat.le_of_ble_eq_true rfl, Nat.le_of_ble_eq_true rfl⟩ dX8_read_4 (fun _ hw_2 => ?_)
  show gG p l e (gR 4 0 0 91) s m args below meth c D A 3 Q 0 0 [(xr, .inr (7, [.ref xt, .ref xq, .int 0, .int 0, .int 0, .int 0, .int 0])), (xt, .inr (9, [.ref tb, .int 0, .int 0, .int 0, .int 0, .int 0])), (xq, .inr (6, [.ref n2, .ref fo2, .ref wa2, .ref we2])), (n2, .inl (cI, 36, .inl g_nums)), (fo2, .inr (2, [.ref cf2, .int 1, .ref sf2, .ref wf2, .int 0, .int 0, .int 0, .int 0, .int 0])), (cf2, .inl (cI, 80, .inl (upd (upd (fun _ => 0) 0 (-1)) 0 (-1)))), (wa2, .inr (2, [.ref cg2, .int 1, .ref sg2, .ref wg2, .int 0, .int 0, .int 0, .int 0, .int 0])), (cg2, .inl (cI, 80, .inl (upd (upd (fun _ => 0) 0 0) 0 0))), (we2, .inr (2, [.ref ch2, .int 1, .ref sh2, .ref wh2, .int 0, .int 0, .int 0, .int 0, .int 0])), (ch2, .inl (cI, 80, .inl (upd (upd (fun _ => 0) 0 0) 0 0)))] [(cI, .int)] [(0, .ref xr)] 7 []
  refine g_aload_n F 0 dX8_read_7 rfl rfl ?_
  refine g_iconst F 0 dX8_read_8 (by decide) ?_
  refine g_put (C := RX8) (T := TX8) (N := 7) (ty := .int) (v := .int 0) F i_X8 0 rfl rfl 2 (by decide) w_1 rfl tyX8 tyX8_ok nmX8 rfl (by decide +kernel) rfl rfl (Nat.le_of_ble_eq_true rfl) [(xr, .inr (7, [.ref xt, .ref xq, .int 0, .int 0, .int 0, .int 0, .int 0])), (xt, .inr (9, [.ref tb, .int 0, .int 0, .int 0, .int 0, .int 0])), (xq, .inr (6, [.ref n2, .ref fo2, .ref wa2, .ref we2])), (n2, .inl (cI, 36, .inl g_nums)), (fo2, .inr (2, [.ref cf2, .int 1, .ref sf2, .ref wf2, .int 0, .int 0, .int 0, .int 0, .int 0])), (cf2, .inl (cI, 80, .inl (upd (upd (fun _ => 0) 0 (-1)) 0 (-1)))), (wa2, .inr (2, [.ref cg2, .int 1, .ref sg2, .ref wg2, .int 0, .int 0, .int 0, .int 0, .int 0])), (cg2, .inl (cI, 80, .inl (upd (upd (fun _ => 0) 0 0) 0 0))), (we2, .inr (2, [.ref ch2, .int 1, .ref sh2, .ref wh2, .int 0, .int 0, .int 0, .int 0, .int 0])), (ch2, .inl (cI, 80, .inl (upd (upd (fun _ => 0) 0 0) 0 0)))] rfl dX8_read_9 ?_
  refine g_aload_n F 0 dX8_read_12 rfl rfl ?_
  refine g_iconst F 0 dX8_read_13 (by decide) ?_
  refine g_put (C := RX8) (T := TX8) (N := 7) (ty := .int) (v := .int 0) F i_X8 0 rfl rfl 3 (by decide) w_2 rfl tyX8 tyX8_ok nmX8 rfl (by decide +kernel) rfl rfl (Nat.le_of_ble_eq_true rfl) [(xr, .inr (7, [.ref xt, .ref xq, .int 0, .int 0, .int 0, .int 0, .int 0])), (xt, .inr (9, [.ref tb, .int 0, .int 0, .int 0, .int 0, .int 0])), (xq, .inr (6, [.ref n2, .ref fo2, .ref wa2, .ref we2])), (n2, .inl (cI, 36, .inl g_nums)), (fo2, .inr (2, [.ref cf2, .int 1, .ref sf2, .ref wf2, .int 0, .int 0, .int 0, .int 0, .int 0])), (cf2, .inl (cI, 80, .inl (upd (upd (fun _ => 0) 0 (-1)) 0 (-1)))), (wa2, .inr (2, [.ref cg2, .int 1, .ref sg2, .ref wg2, .int 0, .int 0, .int 0, .int 0, .int 0])), (cg2, .inl (cI, 80, .inl (upd (upd (fun _ => 0) 0 0) 0 0))), (we2, .inr (2, [.ref ch2, .int 1, .ref sh2, .ref wh2, .int 0, .int 0, .int 0, .int 0, .int 0])), (ch2, .inl (cI, 80, .inl (upd (upd (fun _ => 0) 0 0) 0 0)))] rfl dX8_read_14 ?_
  refine g_aload_n F 0 dX8_read_17 rfl rfl ?_
  refine g_iconst F (-1) dX8_read_18 (by decide) ?_
  refine g_put (C := RX8) (T := TX8) (N := 7) (ty := .int) (v := .int (-1)) F i_X8 0 rfl rfl 4 (by decide) w_3 rfl tyX8 tyX8_ok nmX8 rfl (by decide +kernel) rfl rfl (Nat.le_of_ble_eq_true rfl) [(xr, .inr (7, [.ref xt, .ref xq, .int 0, .int 0, .int (-1), .int 0, .int 0])), (xt, .inr (9, [.ref tb, .int 0, .int 0, .int 0, .int 0, .int 0])), (xq, .inr (6, [.ref n2, .ref fo2, .ref wa2, .ref we2])), (n2, .inl (cI, 36, .inl g_nums)), (fo2, .inr (2, [.ref cf2, .int 1, .ref sf2, .ref wf2, .int 0, .int 0, .int 0, .int 0, .int 0])), (cf2, .inl (cI, 80, .inl (upd (upd (fun _ => 0) 0 (-1)) 0 (-1)))), (wa2, .inr (2, [.ref cg2, .int 1, .ref sg2, .ref wg2, .int 0, .int 0, .int 0, .int 0, .int 0])), (cg2, .inl (cI, 80, .inl (upd (upd (fun _ => 0) 0 0) 0 0))), (we2, .inr (2, [.ref ch2, .int 1, .ref sh2, .ref wh2, .int 0, .int 0, .int 0, .int 0, .int 0])), (ch2, .inl (cI, 80, .inl (upd (upd (fun _ => 0) 0 0) 0 0)))] rfl dX8_read_19 ?_
  refine g_aload_n F 0 dX8_read_22 rfl rfl ?_
  refine g_get (C := RX8) (T := TX8) (N := 7) (v := .ref xt) F i_X8 0 rfl rfl 0 (by decide) w_4 rfl rfl dX8_read_23 ?_
  refine g_callVv (k := 0) (n := 0) (b := xt) (As := []) (st := []) (wc := [(xt, .inr (9, [.ref tb, .int 0, .int 0, .int 0, .int 0, .int 0]))]) (wr := [(xr, .inr (7, [.ref xt, .ref xq, .int 0, .int 0, .int (-1), .int 0, .int 0])), (xq, .inr (6, [.ref n2, .ref fo2, .ref wa2, .ref we2])), (n2, .inl (cI, 36, .inl g_nums)), (fo2, .inr (2, [.ref cf2, .int 1, .ref sf2, .ref wf2, .int 0, .int 0, .int 0, .int 0, .int 0])), (cf2, .inl (cI, 80, .inl (upd (upd (fun _ => 0) 0 (-1)) 0 (-1)))), (wa2, .inr (2, [.ref cg2, .int 1, .ref sg2, .ref wg2, .int 0, .int 0, .int 0, .int 0, .int 0])), (cg2, .inl (cI, 80, .inl (upd (upd (fun _ => 0) 0 0) 0 0))), (we2, .inr (2, [.ref ch2, .int 1, .ref sh2, .ref wh2, .int 0, .int 0, .int 0, .int 0, .int 0])), (ch2, .inl (cI, 80, .inl (upd (upd (fun _ => 0) 0 0) 0 0)))]) F [1] [0, 2, 3, 4, 5, 6, 7, 8, 9] [] rfl rfl (by decide) rfl (by decide) (by decide) rfl (fun sz => K_X10_rewind l D xt tb 0 0 0 0 0  sz) (cwV 0 hts gX8_read_X10_rewind rfl rfl rfl (by decide +kernel) ⟨Nat.le_of_ble_eq_true rfl, Nat.le_of_ble_eq_true rfl⟩) rfl 0 rfl rfl (Nat.le_of_ble_eq_true rfl) ⟨Nat.le_of_ble_eq_true rfl, Nat.le_of_ble_eq_true rfl⟩ dX8_read_26 (fun _ hw_7 => ?_)
  show gG p l e (gR 4 0 0 91) s m args below meth c D A 3 Q 0 0 [(xr, .inr (7, [.ref xt, .ref xq, .int 0, .int 0, .int (-1), .int 0, .int 0])), (xq, .inr (6, [.ref n2, .ref fo2, .ref wa2, .ref we2])), (n2, .inl (cI, 36, .inl g_nums)), (fo2, .inr (2, [.ref cf2, .int 1, .ref sf2, .ref wf2, .int 0, .int 0, .int 0, .int 0, .int 0])), (cf2, .inl (cI, 80, .inl (upd (upd (fun _ => 0) 0 (-1)) 0 (-1)))), (wa2, .inr (2, [.ref cg2, .int 1, .ref sg2, .ref wg2, .int 0, .int 0, .int 0, .int 0, .int 0])), (cg2, .inl (cI, 80, .inl (upd (upd (fun _ => 0) 0 0) 0 0))), (we2, .inr (2, [.ref ch2, .int 1, .ref sh2, .ref wh2, .int 0, .int 0, .int 0, .int 0, .int 0])), (ch2, .inl (cI, 80, .inl (upd (upd (fun _ => 0) 0 0) 0 0))), (xt, .inr (9, [.ref tb, .int 0, .int 0, .int 0, .int 0, .int 0]))] [(cI, .int)] [(0, .ref xr)] 29 []
  refine g_iconst F 0 dX8_read_29 (by decide) ?_
  refine g_istore_n F [(1, .int 0), (0, .ref xr)] dX8_read_30 rfl (by decide) rfl ?_
  refine g_iload_n F 0 dX8_read_31 rfl rfl ?_
  refine g_sipush F 1000 dX8_read_32 (by decide) ?_
  refine g_icmp_gt F 82 dX8_read_35 (by decide) (fun h9 => absurd h9 (by decide)) (fun c_35 => ?_)
  refine g_aload_n F 1 dX8_read_38 rfl rfl ?_
  refine g_get (C := RX8) (T := TX8) (N := 7) (v := .ref xt) F i_X8 0 rfl rfl 0 (by decide) w_4 rfl rfl dX8_read_39 ?_
  refine g_callVv (k := 0) (n := 0) (b := xt) (As := []) (st := []) (wc := [(xt, .inr (9, [.ref tb, .int 0, .int 0, .int 0, .int 0, .int 0]))]) (wr := [(xr, .inr (7, [.ref xt, .ref xq, .int 0, .int 0, .int (-1), .int 0, .int 0])), (xq, .inr (6, [.ref n2, .ref fo2, .ref wa2, .ref we2])), (n2, .inl (cI, 36, .inl g_nums)), (fo2, .inr (2, [.ref cf2, .int 1, .ref sf2, .ref wf2, .int 0, .int 0, .int 0, .int 0, .int 0])), (cf2, .inl (cI, 80, .inl (upd (upd (fun _ => 0) 0 (-1)) 0 (-1)))), (wa2, .inr (2, [.ref cg2, .int 1, .ref sg2, .ref wg2, .int 0, .int 0, .int 0, .int 0, .int 0])), (cg2, .inl (cI, 80, .inl (upd (upd (fun _ => 0) 0 0) 0 0))), (we2, .inr (2, [.ref ch2, .int 1, .ref sh2, .ref wh2, .int 0, .int 0, .int 0, .int 0, .int 0])), (ch2, .inl (cI, 80, .inl (upd (upd (fun _ => 0) 0 0) 0 0)))]) F [9] [0, 1, 2, 3, 4, 5, 6, 7, 8] [] rfl rfl (by decide) rfl (by decide) (by decide) rfl (fun sz => K_X10_readToken0 l D xt tb 0 0 0  sz) (cwV 0 hts gX8_read_X10_readToken rfl rfl rfl (by decide +kernel) ⟨Nat.le_of_ble_eq_true rfl, Nat.le_of_ble_eq_true rfl⟩) rfl 0 rfl rfl (Nat.le_of_ble_eq_true rfl) ⟨Nat.le_of_ble_eq_true rfl, Nat.le_of_ble_eq_true rfl⟩ dX8_read_42 (fun _ hw_12 => ?_)
  show gG p l e (gR 4 0 0 91) s m args below meth c D A 3 Q 0 0 [(xr, .inr (7, [.ref xt, .ref xq, .int 0, .int 0, .int (-1), .int 0, .int 0])), (xq, .inr (6, [.ref n2, .ref fo2, .ref wa2, .ref we2])), (n2, .inl (cI, 36, .inl g_nums)), (fo2, .inr (2, [.ref cf2, .int 1, .ref sf2, .ref wf2, .int 0, .int 0, .int 0, .int 0, .int 0])), (cf2, .inl (cI, 80, .inl (upd (upd (fun _ => 0) 0 (-1)) 0 (-1)))), (wa2, .inr (2, [.ref cg2, .int 1, .ref sg2, .ref wg2, .int 0, .int 0, .int 0, .int 0, .int 0])), (cg2, .inl (cI, 80, .inl (upd (upd (fun _ => 0) 0 0) 0 0))), (we2, .inr (2, [.ref ch2, .int 1, .ref sh2, .ref wh2, .int 0, .int 0, .int 0, .int 0, .int 0])), (ch2, .inl (cI, 80, .inl (upd (upd (fun _ => 0) 0 0) 0 0))), (xt, .inr (9, [.ref tb, .int 0, .int 0, .int 0, .int 0, .int 0]))] [(cI, .int)] [(1, .int 0), (0, .ref xr)] 45 []
  refine g_aload_n F 1 dX8_read_45 rfl rfl ?_
  refine g_get (C := RX8) (T := TX8) (N := 7) (v := .int (-1)) F i_X8 0 rfl rfl 4 (by decide) w_3 rfl rfl dX8_read_46 ?_
  refine g_iconst F (-1) dX8_read_49 (by decide) ?_
  refine g_icmp_ne F 65 dX8_read_50 (by decide) (fun h9 => absurd (by decide) h9) (fun c_50 => ?_)
  refine g_aload_n F 1 dX8_read_53 rfl rfl ?_
  refine g_get (C := RX8) (T := TX8) (N := 7) (v := .ref xt) F i_X8 0 rfl rfl 0 (by decide) w_4 rfl rfl dX8_read_54 ?_
  refine g_get (C := RX10) (T := TX10) (N := 6) (v := .int 0) F i_X10 9 rfl rfl 3 (by decide) w_5 rfl rfl dX8_read_57 ?_
  refine g_if_ne F 65 dX8_read_60 (by decide) (fun h9 => absurd (by decide) h9) (fun c_60 => ?_)
  refine g_iconst F 0 dX8_read_63 (by decide) ?_
  exact g_iret F hA hQ hr ((upd (upd (fun _ => 0) 0 (-1)) 0 (-1)), (upd (upd (fun _ => 0) 0 0) 0 0), (upd (upd (fun _ => 0) 0 0) 0 0)) (rfl) [0, 9, 1, 2, 3, 4, 5, 6, 7, 8] [0] rfl (by decide) rfl rfl dX8_read_64

theorem dX3_copyFrom_0 : decode cX3_copyFrom 0 = .ok (.aload_n 0, 1) := by decide +kernel
theorem dX3_copyFrom_1 : decode cX3_copyFrom 1 = .ok (.aload_n 1, 1) := by decide +kernel
theorem dX3_copyFrom_2 : decode cX3_copyFrom 2 = .ok (.getfield 21, 3) := by decide +kernel
theorem dX3_copyFrom_5 : decode cX3_copyFrom 5 = .ok (.putfield 21, 3) := by decide +kernel
theorem dX3_copyFrom_8 : decode cX3_copyFrom 8 = .ok (.aload_n 1, 1) := by decide +kernel
theorem dX3_copyFrom_9 : decode cX3_copyFrom 9 = .ok (.getfield 11, 3) := by decide +kernel
theorem dX3_copyFrom_12 : decode cX3_copyFrom 12 = .ok (.iconst 0, 1) := by decide +kernel
theorem dX3_copyFrom_13 : decode cX3_copyFrom 13 = .ok (.aload_n 0, 1) := by decide +kernel
theorem dX3_copyFrom_14 : decode cX3_copyFrom 14 = .ok (.getfield 11, 3) := by decide +kernel
theorem dX3_copyFrom_17 : decode cX3_copyFrom 17 = .ok (.iconst 0, 1) := by decide +kernel
theorem dX3_copyFrom_18 : decode cX3_copyFrom 18 = .ok (.bipush 80, 2) := by decide +kernel
theorem dX3_copyFrom_20 : decode cX3_copyFrom 20 = .ok (.invokestatic 29, 3) := by decide +kernel
theorem dX3_copyFrom_23 : decode cX3_copyFrom 23 = .ok (.return_, 1) := by decide +kernel
set_option maxHeartbeats 4000000 in
set_option maxRecDepth 100000 in
theorem K_X3_copyFrom (l : Launch) (D : va_G) (h0 : Nat) (h1 : Nat) (h2 : Nat) (h3 : Nat) (k0 : Nat) (k1 : Nat) (k2 : Nat) (k3 : Nat) (cI : ClassId) (f : Nat → Int32) (g : Nat → Int32) (sz : Nat) : Kv l yX3_copyFrom wsX3_copyFrom 1 40 0 0 D [.ref h0, .ref k0] [(h0, .inr (2, [.ref h1, .int 1, .ref h2, .ref h3, .int 0, .int 0, .int 0, .int 0, .int 0])), (h1, .inl (cI, 80, .inl f)), (k0, .inr (2, [.ref k1, .int 1, .ref k2, .ref k3, .int 0, .int 0, .int 0, .int 0, .int 0])), (k1, .inl (cI, 80, .inl g))] [(cI, .int)] sz (fun (u : (Nat → Int32)) => True) (fun (u : (Nat → Int32)) => [(h0, .inr (2, [.ref h1, .int 1, .ref h2, .ref h3, .int 0, .int 0, .int 0, .int 0, .int 0])), (h1, .inl (cI, 80, .inl u)), (k0, .inr (2, [.ref k1, .int 1, .ref k2, .ref k3, .int 0, .int 0, .int 0, .int 0, .int 0])), (k1, .inl (cI, 80, .inl g))]) (fun (_ : (Nat → Int32)) => [(cI, .int)]) := by
  unfold Kv
  refine g_ofW (cc := cX3_copyFrom) (lv := [(0, .ref h0), (1, .ref k0)]) (by decide) rfl (Nat.le_of_ble_eq_true rfl) rfl ?_
  intro p e s m args below meth c A Q hA hQ F hr hnm
  have hts := F.2.2.2.2.1
  have w_0 : (Cond.fieldLink RX3 21 "QuietCut$Formula" "length" "I").before args s = true := hts _ (List.mem_of_getElem? (i := 1) rfl)
  have i_X3 : ∀ w ∈ u_ws RX3 TX3 9, w ∈ wsX3_copyFrom := fun _ h => List.mem_cons_of_mem _ (List.mem_append_right _ h)
  have w_1 : (Cond.fieldLink RX3 11 "QuietCut$Formula" "codes" "[I").before args s = true := hts _ (List.mem_of_getElem? (i := 2) rfl)
  have w_2 : (Cond.methodLink RX3 29 arraycopyName).before args s = true := hts _ (List.mem_of_getElem? (i := 3) rfl)
  have w_3 : (Cond.native arraycopyName).before args s = true := hts _ (List.mem_of_getElem? (i := 4) rfl)
  have w_4 : (Cond.static arraycopyName).before args s = true := hts _ (List.mem_of_getElem? (i := 5) rfl)
  have w_5 : (Cond.initialized "java/lang/System").before args s = true := hts _ (List.mem_of_getElem? (i := 6) rfl)
  refine g_aload_n F 0 dX3_copyFrom_0 rfl rfl ?_
  refine g_aload_n F 1 dX3_copyFrom_1 rfl rfl ?_
  refine g_get (C := RX3) (T := TX3) (N := 9) (v := .int 1) F i_X3 2 rfl rfl 1 (by decide) w_0 rfl rfl dX3_copyFrom_2 ?_
  refine g_put (C := RX3) (T := TX3) (N := 9) (ty := .int) (v := .int 1) F i_X3 0 rfl rfl 1 (by decide) w_0 rfl tyX3 tyX3_ok nmX3 rfl (by decide +kernel) rfl rfl (Nat.le_of_ble_eq_true rfl) [(h0, .inr (2, [.ref h1, .int 1, .ref h2, .ref h3, .int 0, .int 0, .int 0, .int 0, .int 0])), (h1, .inl (cI, 80, .inl f)), (k0, .inr (2, [.ref k1, .int 1, .ref k2, .ref k3, .int 0, .int 0, .int 0, .int 0, .int 0])), (k1, .inl (cI, 80, .inl g))] rfl dX3_copyFrom_5 ?_
  refine g_aload_n F 1 dX3_copyFrom_8 rfl rfl ?_
  refine g_get (C := RX3) (T := TX3) (N := 9) (v := .ref k1) F i_X3 2 rfl rfl 0 (by decide) w_1 rfl rfl dX3_copyFrom_9 ?_
  refine g_iconst F 0 dX3_copyFrom_12 (by decide) ?_
  refine g_aload_n F 0 dX3_copyFrom_13 rfl rfl ?_
  refine g_get (C := RX3) (T := TX3) (N := 9) (v := .ref h1) F i_X3 0 rfl rfl 0 (by decide) w_1 rfl rfl dX3_copyFrom_14 ?_
  refine g_iconst F 0 dX3_copyFrom_17 (by decide) ?_
  refine g_bipush F 80 dX3_copyFrom_18 (by decide) ?_
  refine g_copyi F w_2 w_3 w_4 w_5 3 1 0 rfl rfl rfl (by decide) (by decide) (by decide) (by decide) (by decide) (Nat.le_of_ble_eq_true rfl) (Nat.le_of_ble_eq_true rfl) [(h0, .inr (2, [.ref h1, .int 1, .ref h2, .ref h3, .int 0, .int 0, .int 0, .int 0, .int 0])), (h1, .inl (cI, 80, .inl (va_cpy g f (0 : Int32).toNatClampNeg (0 : Int32).toNatClampNeg (80 : Int32).toNatClampNeg))), (k0, .inr (2, [.ref k1, .int 1, .ref k2, .ref k3, .int 0, .int 0, .int 0, .int 0, .int 0])), (k1, .inl (cI, 80, .inl g))] rfl dX3_copyFrom_20 ?_
  exact g_vret F hA hQ hr (va_cpy g f (0 : Int32).toNatClampNeg (0 : Int32).toNatClampNeg (80 : Int32).toNatClampNeg) (trivial) [0, 1, 2, 3] [0] rfl (by decide) rfl rfl dX3_copyFrom_23

theorem dX7_copyFrom_0 : decode cX7_copyFrom 0 = .ok (.aload_n 1, 1) := by decide +kernel
theorem dX7_copyFrom_1 : decode cX7_copyFrom 1 = .ok (.getfield 11, 3) := by decide +kernel
theorem dX7_copyFrom_4 : decode cX7_copyFrom 4 = .ok (.iconst 0, 1) := by decide +kernel
theorem dX7_copyFrom_5 : decode cX7_copyFrom 5 = .ok (.aload_n 0, 1) := by decide +kernel
theorem dX7_copyFrom_6 : decode cX7_copyFrom 6 = .ok (.getfield 11, 3) := by decide +kernel
theorem dX7_copyFrom_9 : decode cX7_copyFrom 9 = .ok (.iconst 0, 1) := by decide +kernel
theorem dX7_copyFrom_10 : decode cX7_copyFrom 10 = .ok (.aload_n 0, 1) := by decide +kernel
theorem dX7_copyFrom_11 : decode cX7_copyFrom 11 = .ok (.getfield 11, 3) := by decide +kernel
theorem dX7_copyFrom_14 : decode cX7_copyFrom 14 = .ok (.arraylength, 1) := by decide +kernel
theorem dX7_copyFrom_15 : decode cX7_copyFrom 15 = .ok (.invokestatic 40, 3) := by decide +kernel
theorem dX7_copyFrom_18 : decode cX7_copyFrom 18 = .ok (.aload_n 0, 1) := by decide +kernel
theorem dX7_copyFrom_19 : decode cX7_copyFrom 19 = .ok (.getfield 18, 3) := by decide +kernel
theorem dX7_copyFrom_22 : decode cX7_copyFrom 22 = .ok (.aload_n 1, 1) := by decide +kernel
theorem dX7_copyFrom_23 : decode cX7_copyFrom 23 = .ok (.getfield 18, 3) := by decide +kernel
theorem dX7_copyFrom_26 : decode cX7_copyFrom 26 = .ok (.invokevirtual 52, 3) := by decide +kernel
theorem dX7_copyFrom_29 : decode cX7_copyFrom 29 = .ok (.aload_n 0, 1) := by decide +kernel
theorem dX7_copyFrom_30 : decode cX7_copyFrom 30 = .ok (.getfield 22, 3) := by decide +kernel
theorem dX7_copyFrom_33 : decode cX7_copyFrom 33 = .ok (.aload_n 1, 1) := by decide +kernel
theorem dX7_copyFrom_34 : decode cX7_copyFrom 34 = .ok (.getfield 22, 3) := by decide +kernel
theorem dX7_copyFrom_37 : decode cX7_copyFrom 37 = .ok (.invokevirtual 52, 3) := by decide +kernel
theorem dX7_copyFrom_40 : decode cX7_copyFrom 40 = .ok (.aload_n 0, 1) := by decide +kernel
theorem dX7_copyFrom_41 : decode cX7_copyFrom 41 = .ok (.getfield 25, 3) := by decide +kernel
theorem dX7_copyFrom_44 : decode cX7_copyFrom 44 = .ok (.aload_n 1, 1) := by decide +kernel
theorem dX7_copyFrom_45 : decode cX7_copyFrom 45 = .ok (.getfield 25, 3) := by decide +kernel
theorem dX7_copyFrom_48 : decode cX7_copyFrom 48 = .ok (.invokevirtual 52, 3) := by decide +kernel
theorem dX7_copyFrom_51 : decode cX7_copyFrom 51 = .ok (.return_, 1) := by decide +kernel
set_option maxRecDepth 20000 in
theorem ggX7_copyFrom_X3_copyFrom : GoodIn wsX7_copyFrom wsX3_copyFrom := goodIn_r _ [13, 14, 15, 16, 3, 4, 5, 21, 22, 23, 24, 25, 26, 27, 28, 29] rfl (by decide +kernel)
set_option maxRecDepth 20000 in
theorem gX7_copyFrom_X3_copyFrom : GoodIn wsX7_copyFrom (wsV RX7 52 RX3 yX3_copyFrom wsX3_copyFrom) := goodIn_app (goodIn_of _ (by decide +kernel)) ggX7_copyFrom_X3_copyFrom
set_option maxHeartbeats 4000000 in
set_option maxRecDepth 100000 in
theorem K_X7_copyFrom (l : Launch) (D : va_G) (xs : Nat) (n : Nat) (fo : Nat) (wa : Nat) (we : Nat) (cI : ClassId) (cf : Nat) (sf : Nat) (wf : Nat) (cg : Nat) (sg : Nat) (wg : Nat) (ch : Nat) (sh : Nat) (wh : Nat) (xq : Nat) (n2 : Nat) (fo2 : Nat) (wa2 : Nat) (we2 : Nat) (cf2 : Nat) (sf2 : Nat) (wf2 : Nat) (cg2 : Nat) (sg2 : Nat) (wg2 : Nat) (ch2 : Nat) (sh2 : Nat) (wh2 : Nat) (q1 : Nat → Int32) (q2 : Nat → Int32) (q3 : Nat → Int32) (sz : Nat) : Kv l yX7_copyFrom wsX7_copyFrom 2 61 0 0 D [.ref xs, .ref xq] [(xs, .inr (6, [.ref n, .ref fo, .ref wa, .ref we])), (n, .inl (cI, 36, .inl g_nums)), (fo, .inr (2, [.ref cf, .int 1, .ref sf, .ref wf, .int 0, .int 0, .int 0, .int 0, .int 0])), (cf, .inl (cI, 80, .inl (upd (fun _ => 0) 0 (-1)))), (wa, .inr (2, [.ref cg, .int 1, .ref sg, .ref wg, .int 0, .int 0, .int 0, .int 0, .int 0])), (cg, .inl (cI, 80, .inl (upd (fun _ => 0) 0 0))), (we, .inr (2, [.ref ch, .int 1, .ref sh, .ref wh, .int 0, .int 0, .int 0, .int 0, .int 0])), (ch, .inl (cI, 80, .inl (upd (fun _ => 0) 0 0))), (xq, .inr (6, [.ref n2, .ref fo2, .ref wa2, .ref we2])), (n2, .inl (cI, 36, .inl g_nums)), (fo2, .inr (2, [.ref cf2, .int 1, .ref sf2, .ref wf2, .int 0, .int 0, .int 0, .int 0, .int 0])), (cf2, .inl (cI, 80, .inl q1)), (wa2, .inr (2, [.ref cg2, .int 1, .ref sg2, .ref wg2, .int 0, .int 0, .int 0, .int 0, .int 0])), (cg2, .inl (cI, 80, .inl q2)), (we2, .inr (2, [.ref ch2, .int 1, .ref sh2, .ref wh2, .int 0, .int 0, .int 0, .int 0, .int 0])), (ch2, .inl (cI, 80, .inl q3))] [(cI, .int)] sz (fun (u : (Nat → Int32) × (Nat → Int32) × (Nat → Int32) × (Nat → Int32)) => True) (fun (u : (Nat → Int32) × (Nat → Int32) × (Nat → Int32) × (Nat → Int32)) => [(xs, .inr (6, [.ref n, .ref fo, .ref wa, .ref we])), (n, .inl (cI, 36, .inl u.1)), (fo, .inr (2, [.ref cf, .int 1, .ref sf, .ref wf, .int 0, .int 0, .int 0, .int 0, .int 0])), (cf, .inl (cI, 80, .inl u.2.1)), (wa, .inr (2, [.ref cg, .int 1, .ref sg, .ref wg, .int 0, .int 0, .int 0, .int 0, .int 0])), (cg, .inl (cI, 80, .inl u.2.2.1)), (we, .inr (2, [.ref ch, .int 1, .ref sh, .ref wh, .int 0, .int 0, .int 0, .int 0, .int 0])), (ch, .inl (cI, 80, .inl u.2.2.2)), (xq, .inr (6, [.ref n2, .ref fo2, .ref wa2, .ref we2])), (n2, .inl (cI, 36, .inl g_nums)), (fo2, .inr (2, [.ref cf2, .int 1, .ref sf2, .ref wf2, .int 0, .int 0, .int 0, .int 0, .int 0])), (cf2, .inl (cI, 80, .inl q1)), (wa2, .inr (2, [.ref cg2, .int 1, .ref sg2, .ref wg2, .int 0, .int 0, .int 0, .int 0, .int 0])), (cg2, .inl (cI, 80, .inl q2)), (we2, .inr (2, [.ref ch2, .int 1, .ref sh2, .ref wh2, .int 0, .int 0, .int 0, .int 0, .int 0])), (ch2, .inl (cI, 80, .inl q3))]) (fun (_ : (Nat → Int32) × (Nat → Int32) × (Nat → Int32) × (Nat → Int32)) => [(cI, .int)]) := by
  unfold Kv
  refine g_ofW (cc := cX7_copyFrom) (lv := [(0, .ref xs), (1, .ref xq)]) (by decide) rfl (Nat.le_of_ble_eq_true rfl) rfl ?_
  intro p e s m args below meth c A Q hA hQ F hr hnm
  have hts := F.2.2.2.2.1
  have w_0 : (Cond.fieldLink RX7 11 "QuietCut$Shop" "numbers" "[I").before args s = true := hts _ (List.mem_of_getElem? (i := 1) rfl)
  have i_X7 : ∀ w ∈ u_ws RX7 TX7 4, w ∈ wsX7_copyFrom := fun _ h => List.mem_cons_of_mem _ (List.mem_append_left _ (List.mem_append_right _ h))
  have w_1 : (Cond.methodLink RX7 40 arraycopyName).before args s = true := hts _ (List.mem_of_getElem? (i := 2) rfl)
  have w_2 : (Cond.native arraycopyName).before args s = true := hts _ (List.mem_of_getElem? (i := 3) rfl)
  have w_3 : (Cond.static arraycopyName).before args s = true := hts _ (List.mem_of_getElem? (i := 4) rfl)
  have w_4 : (Cond.initialized "java/lang/System").before args s = true := hts _ (List.mem_of_getElem? (i := 5) rfl)
  have w_5 : (Cond.fieldLink RX7 18 "QuietCut$Shop" "force" "LQuietCut$Formula;").before args s = true := hts _ (List.mem_of_getElem? (i := 6) rfl)
  have w_6 : (Cond.fieldLink RX7 22 "QuietCut$Shop" "wall" "LQuietCut$Formula;").before args s = true := hts _ (List.mem_of_getElem? (i := 7) rfl)
  have w_7 : (Cond.fieldLink RX7 25 "QuietCut$Shop" "wear" "LQuietCut$Formula;").before args s = true := hts _ (List.mem_of_getElem? (i := 8) rfl)
  refine g_aload_n F 1 dX7_copyFrom_0 rfl rfl ?_
  refine g_get (C := RX7) (T := TX7) (N := 4) (v := .ref n2) F i_X7 8 rfl rfl 0 (by decide) w_0 rfl rfl dX7_copyFrom_1 ?_
  refine g_iconst F 0 dX7_copyFrom_4 (by decide) ?_
  refine g_aload_n F 0 dX7_copyFrom_5 rfl rfl ?_
  refine g_get (C := RX7) (T := TX7) (N := 4) (v := .ref n) F i_X7 0 rfl rfl 0 (by decide) w_0 rfl rfl dX7_copyFrom_6 ?_
  refine g_iconst F 0 dX7_copyFrom_9 (by decide) ?_
  refine g_aload_n F 0 dX7_copyFrom_10 rfl rfl ?_
  refine g_get (C := RX7) (T := TX7) (N := 4) (v := .ref n) F i_X7 0 rfl rfl 0 (by decide) w_0 rfl rfl dX7_copyFrom_11 ?_
  refine g_alen F 1 0 rfl rfl 36 rfl dX7_copyFrom_14 ?_
  refine g_copyi F w_1 w_2 w_3 w_4 9 1 0 rfl rfl rfl (by decide) (by decide) (by decide) (by decide) (by decide) (Nat.le_of_ble_eq_true rfl) (Nat.le_of_ble_eq_true rfl) [(xs, .inr (6, [.ref n, .ref fo, .ref wa, .ref we])), (n, .inl (cI, 36, .inl (va_cpy g_nums g_nums (0 : Int32).toNatClampNeg (0 : Int32).toNatClampNeg (36 : Int32).toNatClampNeg))), (fo, .inr (2, [.ref cf, .int 1, .ref sf, .ref wf, .int 0, .int 0, .int 0, .int 0, .int 0])), (cf, .inl (cI, 80, .inl (upd (fun _ => 0) 0 (-1)))), (wa, .inr (2, [.ref cg, .int 1, .ref sg, .ref wg, .int 0, .int 0, .int 0, .int 0, .int 0])), (cg, .inl (cI, 80, .inl (upd (fun _ => 0) 0 0))), (we, .inr (2, [.ref ch, .int 1, .ref sh, .ref wh, .int 0, .int 0, .int 0, .int 0, .int 0])), (ch, .inl (cI, 80, .inl (upd (fun _ => 0) 0 0))), (xq, .inr (6, [.ref n2, .ref fo2, .ref wa2, .ref we2])), (n2, .inl (cI, 36, .inl g_nums)), (fo2, .inr (2, [.ref cf2, .int 1, .ref sf2, .ref wf2, .int 0, .int 0, .int 0, .int 0, .int 0])), (cf2, .inl (cI, 80, .inl q1)), (wa2, .inr (2, [.ref cg2, .int 1, .ref sg2, .ref wg2, .int 0, .int 0, .int 0, .int 0, .int 0])), (cg2, .inl (cI, 80, .inl q2)), (we2, .inr (2, [.ref ch2, .int 1, .ref sh2, .ref wh2, .int 0, .int 0, .int 0, .int 0, .int 0])), (ch2, .inl (cI, 80, .inl q3))] rfl dX7_copyFrom_15 ?_
  refine g_aload_n F 0 dX7_copyFrom_18 rfl rfl ?_
  refine g_get (C := RX7) (T := TX7) (N := 4) (v := .ref fo) F i_X7 0 rfl rfl 1 (by decide) w_5 rfl rfl dX7_copyFrom_19 ?_
  refine g_aload_n F 1 dX7_copyFrom_22 rfl rfl ?_
  refine g_get (C := RX7) (T := TX7) (N := 4) (v := .ref fo2) F i_X7 8 rfl rfl 1 (by decide) w_5 rfl rfl dX7_copyFrom_23 ?_
  refine g_callVv (k := 0) (n := 0) (b := fo) (As := [.ref fo2]) (st := []) (wc := [(fo, .inr (2, [.ref cf, .int 1, .ref sf, .ref wf, .int 0, .int 0, .int 0, .int 0, .int 0])), (cf, .inl (cI, 80, .inl (upd (fun _ => 0) 0 (-1)))), (fo2, .inr (2, [.ref cf2, .int 1, .ref sf2, .ref wf2, .int 0, .int 0, .int 0, .int 0, .int 0])), (cf2, .inl (cI, 80, .inl q1))]) (wr := [(xs, .inr (6, [.ref n, .ref fo, .ref wa, .ref we])), (n, .inl (cI, 36, .inl (va_cpy g_nums g_nums (0 : Int32).toNatClampNeg (0 : Int32).toNatClampNeg (36 : Int32).toNatClampNeg))), (wa, .inr (2, [.ref cg, .int 1, .ref sg, .ref wg, .int 0, .int 0, .int 0, .int 0, .int 0])), (cg, .inl (cI, 80, .inl (upd (fun _ => 0) 0 0))), (we, .inr (2, [.ref ch, .int 1, .ref sh, .ref wh, .int 0, .int 0, .int 0, .int 0, .int 0])), (ch, .inl (cI, 80, .inl (upd (fun _ => 0) 0 0))), (xq, .inr (6, [.ref n2, .ref fo2, .ref wa2, .ref we2])), (n2, .inl (cI, 36, .inl g_nums)), (wa2, .inr (2, [.ref cg2, .int 1, .ref sg2, .ref wg2, .int 0, .int 0, .int 0, .int 0, .int 0])), (cg2, .inl (cI, 80, .inl q2)), (we2, .inr (2, [.ref ch2, .int 1, .ref sh2, .ref wh2, .int 0, .int 0, .int 0, .int 0, .int 0])), (ch2, .inl (cI, 80, .inl q3))]) F [2, 3, 10, 11] [0, 1, 4, 5, 6, 7, 8, 9, 12, 13, 14, 15] [0] rfl rfl (by decide) rfl (by decide) (by decide) rfl (fun sz => K_X3_copyFrom l D fo cf sf wf fo2 cf2 sf2 wf2 cI (upd (fun _ => 0) 0 (-1)) q1  sz) (cwV 1 hts gX7_copyFrom_X3_copyFrom rfl rfl rfl (by decide +kernel) ⟨Nat.le_of_ble_eq_true rfl, Nat.le_of_ble_eq_true rfl⟩) rfl 0 rfl rfl (Nat.le_of_ble_eq_true rfl) ⟨Nat.le_of_ble_eq_true rfl, Nat.le_of_ble_eq_true rfl⟩ dX7_copyFrom_26 (fun u_0 hw_2 => ?_)
  obtain ⟨g2_3, rfl⟩ : ∃ z, z = u_0 := ⟨_, rfl⟩
  show gG p l e (gR 2 0 0 61) s m args below meth c D A 2 Q 0 0 [(xs, .inr (6, [.ref n, .ref fo, .ref wa, .ref we])), (n, .inl (cI, 36, .inl (va_cpy g_nums g_nums (0 : Int32).toNatClampNeg (0 : Int32).toNatClampNeg (36 : Int32).toNatClampNeg))), (wa, .inr (2, [.ref cg, .int 1, .ref sg, .ref wg, .int 0, .int 0, .int 0, .int 0, .int 0])), (cg, .inl (cI, 80, .inl (upd (fun _ => 0) 0 0))), (we, .inr (2, [.ref ch, .int 1, .ref sh, .ref wh, .int 0, .int 0, .int 0, .int 0, .int 0])), (ch, .inl (cI, 80, .inl (upd (fun _ => 0) 0 0))), (xq, .inr (6, [.ref n2, .ref fo2, .ref wa2, .ref we2])), (n2, .inl (cI, 36, .inl g_nums)), (wa2, .inr (2, [.ref cg2, .int 1, .ref sg2, .ref wg2, .int 0, .int 0, .int 0, .int 0, .int 0])), (cg2, .inl (cI, 80, .inl q2)), (we2, .inr (2, [.ref ch2, .int 1, .ref sh2, .ref wh2, .int 0, .int 0, .int 0, .int 0, .int 0])), (ch2, .inl (cI, 80, .inl q3)), (fo, .inr (2, [.ref cf, .int 1, .ref sf, .ref wf, .int 0, .int 0, .int 0, .int 0, .int 0])), (cf, .inl (cI, 80, .inl g2_3)), (fo2, .inr (2, [.ref cf2, .int 1, .ref sf2, .ref wf2, .int 0, .int 0, .int 0, .int 0, .int 0])), (cf2, .inl (cI, 80, .inl q1))] [(cI, .int)] [(0, .ref xs), (1, .ref xq)] 29 []
  refine g_aload_n F 0 dX7_copyFrom_29 rfl rfl ?_
  refine g_get (C := RX7) (T := TX7) (N := 4) (v := .ref wa) F i_X7 0 rfl rfl 2 (by decide) w_6 rfl rfl dX7_copyFrom_30 ?_
  refine g_aload_n F 1 dX7_copyFrom_33 rfl rfl ?_
  refine g_get (C := RX7) (T := TX7) (N := 4) (v := .ref wa2) F i_X7 6 rfl rfl 2 (by decide) w_6 rfl rfl dX7_copyFrom_34 ?_
  refine g_callVv (k := 0) (n := 0) (b := wa) (As := [.ref wa2]) (st := []) (wc := [(wa, .inr (2, [.ref cg, .int 1, .ref sg, .ref wg, .int 0, .int 0, .int 0, .int 0, .int 0])), (cg, .inl (cI, 80, .inl (upd (fun _ => 0) 0 0))), (wa2, .inr (2, [.ref cg2, .int 1, .ref sg2, .ref wg2, .int 0, .int 0, .int 0, .int 0, .int 0])), (cg2, .inl (cI, 80, .inl q2))]) (wr := [(xs, .inr (6, [.ref n, .ref fo, .ref wa, .ref we])), (n, .inl (cI, 36, .inl (va_cpy g_nums g_nums (0 : Int32).toNatClampNeg (0 : Int32).toNatClampNeg (36 : Int32).toNatClampNeg))), (we, .inr (2, [.ref ch, .int 1, .ref sh, .ref wh, .int 0, .int 0, .int 0, .int 0, .int 0])), (ch, .inl (cI, 80, .inl (upd (fun _ => 0) 0 0))), (xq, .inr (6, [.ref n2, .ref fo2, .ref wa2, .ref we2])), (n2, .inl (cI, 36, .inl g_nums)), (we2, .inr (2, [.ref ch2, .int 1, .ref sh2, .ref wh2, .int 0, .int 0, .int 0, .int 0, .int 0])), (ch2, .inl (cI, 80, .inl q3)), (fo, .inr (2, [.ref cf, .int 1, .ref sf, .ref wf, .int 0, .int 0, .int 0, .int 0, .int 0])), (cf, .inl (cI, 80, .inl g2_3)), (fo2, .inr (2, [.ref cf2, .int 1, .ref sf2, .ref wf2, .int 0, .int 0, .int 0, .int 0, .int 0])), (cf2, .inl (cI, 80, .inl q1))]) F [2, 3, 8, 9] [0, 1, 4, 5, 6, 7, 10, 11, 12, 13, 14, 15] [0] rfl rfl (by decide) rfl (by decide) (by decide) rfl (fun sz => K_X3_copyFrom l D wa cg sg wg wa2 cg2 sg2 wg2 cI (upd (fun _ => 0) 0 0) q2  sz) (cwV 1 hts gX7_copyFrom_X3_copyFrom rfl rfl rfl (by decide +kernel) ⟨Nat.le_of_ble_eq_true rfl, Nat.le_of_ble_eq_true rfl⟩) rfl 0 rfl rfl (Nat.le_of_ble_eq_true rfl) ⟨Nat.le_of_ble_eq_true rfl, Nat.le_of_ble_eq_true rfl⟩ dX7_copyFrom_37 (fun u_5 hw_7 => ?_)
  obtain ⟨g2_8, rfl⟩ : ∃ z, z = u_5 := ⟨_, rfl⟩
  show gG p l e (gR 2 0 0 61) s m args below meth c D A 2 Q 0 0 [(xs, .inr (6, [.ref n, .ref fo, .ref wa, .ref we])), (n, .inl (cI, 36, .inl (va_cpy g_nums g_nums (0 : Int32).toNatClampNeg (0 : Int32).toNatClampNeg (36 : Int32).toNatClampNeg))), (we, .inr (2, [.ref ch, .int 1, .ref sh, .ref wh, .int 0, .int 0, .int 0, .int 0, .int 0])), (ch, .inl (cI, 80, .inl (upd (fun _ => 0) 0 0))), (xq, .inr (6, [.ref n2, .ref fo2, .ref wa2, .ref we2])), (n2, .inl (cI, 36, .inl g_nums)), (we2, .inr (2, [.ref ch2, .int 1, .ref sh2, .ref wh2, .int 0, .int 0, .int 0, .int 0, .int 0])), (ch2, .inl (cI, 80, .inl q3)), (fo, .inr (2, [.ref cf, .int 1, .ref sf, .ref wf, .int 0, .int 0, .int 0, .int 0, .int 0])), (cf, .inl (cI, 80, .inl g2_3)), (fo2, .inr (2, [.ref cf2, .int 1, .ref sf2, .ref wf2, .int 0, .int 0, .int 0, .int 0, .int 0])), (cf2, .inl (cI, 80, .inl q1)), (wa, .inr (2, [.ref cg, .int 1, .ref sg, .ref wg, .int 0, .int 0, .int 0, .int 0, .int 0])), (cg, .inl (cI, 80, .inl g2_8)), (wa2, .inr (2, [.ref cg2, .int 1, .ref sg2, .ref wg2, .int 0, .int 0, .int 0, .int 0, .int 0])), (cg2, .inl (cI, 80, .inl q2))] [(cI, .int)] [(0, .ref xs), (1, .ref xq)] 40 []
  refine g_aload_n F 0 dX7_copyFrom_40 rfl rfl ?_
  refine g_get (C := RX7) (T := TX7) (N := 4) (v := .ref we) F i_X7 0 rfl rfl 3 (by decide) w_7 rfl rfl dX7_copyFrom_41 ?_
  refine g_aload_n F 1 dX7_copyFrom_44 rfl rfl ?_
  refine g_get (C := RX7) (T := TX7) (N := 4) (v := .ref we2) F i_X7 4 rfl rfl 3 (by decide) w_7 rfl rfl dX7_copyFrom_45 ?_
  refine g_callVv (k := 0) (n := 0) (b := we) (As := [.ref we2]) (st := []) (wc := [(we, .inr (2, [.ref ch, .int 1, .ref sh, .ref wh, .int 0, .int 0, .int 0, .int 0, .int 0])), (ch, .inl (cI, 80, .inl (upd (fun _ => 0) 0 0))), (we2, .inr (2, [.ref ch2, .int 1, .ref sh2, .ref wh2, .int 0, .int 0, .int 0, .int 0, .int 0])), (ch2, .inl (cI, 80, .inl q3))]) (wr := [(xs, .inr (6, [.ref n, .ref fo, .ref wa, .ref we])), (n, .inl (cI, 36, .inl (va_cpy g_nums g_nums (0 : Int32).toNatClampNeg (0 : Int32).toNatClampNeg (36 : Int32).toNatClampNeg))), (xq, .inr (6, [.ref n2, .ref fo2, .ref wa2, .ref we2])), (n2, .inl (cI, 36, .inl g_nums)), (fo, .inr (2, [.ref cf, .int 1, .ref sf, .ref wf, .int 0, .int 0, .int 0, .int 0, .int 0])), (cf, .inl (cI, 80, .inl g2_3)), (fo2, .inr (2, [.ref cf2, .int 1, .ref sf2, .ref wf2, .int 0, .int 0, .int 0, .int 0, .int 0])), (cf2, .inl (cI, 80, .inl q1)), (wa, .inr (2, [.ref cg, .int 1, .ref sg, .ref wg, .int 0, .int 0, .int 0, .int 0, .int 0])), (cg, .inl (cI, 80, .inl g2_8)), (wa2, .inr (2, [.ref cg2, .int 1, .ref sg2, .ref wg2, .int 0, .int 0, .int 0, .int 0, .int 0])), (cg2, .inl (cI, 80, .inl q2))]) F [2, 3, 6, 7] [0, 1, 4, 5, 8, 9, 10, 11, 12, 13, 14, 15] [0] rfl rfl (by decide) rfl (by decide) (by decide) rfl (fun sz => K_X3_copyFrom l D we ch sh wh we2 ch2 sh2 wh2 cI (upd (fun _ => 0) 0 0) q3  sz) (cwV 1 hts gX7_copyFrom_X3_copyFrom rfl rfl rfl (by decide +kernel) ⟨Nat.le_of_ble_eq_true rfl, Nat.le_of_ble_eq_true rfl⟩) rfl 0 rfl rfl (Nat.le_of_ble_eq_true rfl) ⟨Nat.le_of_ble_eq_true rfl, Nat.le_of_ble_eq_true rfl⟩ dX7_copyFrom_48 (fun u_10 hw_12 => ?_)
  obtain ⟨g2_13, rfl⟩ : ∃ z, z = u_10 := ⟨_, rfl⟩
  show gG p l e (gR 2 0 0 61) s m args below meth c D A 2 Q 0 0 [(xs, .inr (6, [.ref n, .ref fo, .ref wa, .ref we])), (n, .inl (cI, 36, .inl (va_cpy g_nums g_nums (0 : Int32).toNatClampNeg (0 : Int32).toNatClampNeg (36 : Int32).toNatClampNeg))), (xq, .inr (6, [.ref n2, .ref fo2, .ref wa2, .ref we2])), (n2, .inl (cI, 36, .inl g_nums)), (fo, .inr (2, [.ref cf, .int 1, .ref sf, .ref wf, .int 0, .int 0, .int 0, .int 0, .int 0])), (cf, .inl (cI, 80, .inl g2_3)), (fo2, .inr (2, [.ref cf2, .int 1, .ref sf2, .ref wf2, .int 0, .int 0, .int 0, .int 0, .int 0])), (cf2, .inl (cI, 80, .inl q1)), (wa, .inr (2, [.ref cg, .int 1, .ref sg, .ref wg, .int 0, .int 0, .int 0, .int 0, .int 0])), (cg, .inl (cI, 80, .inl g2_8)), (wa2, .inr (2, [.ref cg2, .int 1, .ref sg2, .ref wg2, .int 0, .int 0, .int 0, .int 0, .int 0])), (cg2, .inl (cI, 80, .inl q2)), (we, .inr (2, [.ref ch, .int 1, .ref sh, .ref wh, .int 0, .int 0, .int 0, .int 0, .int 0])), (ch, .inl (cI, 80, .inl g2_13)), (we2, .inr (2, [.ref ch2, .int 1, .ref sh2, .ref wh2, .int 0, .int 0, .int 0, .int 0, .int 0])), (ch2, .inl (cI, 80, .inl q3))] [(cI, .int)] [(0, .ref xs), (1, .ref xq)] 51 []
  exact g_vret F hA hQ hr ((va_cpy g_nums g_nums (0 : Int32).toNatClampNeg (0 : Int32).toNatClampNeg (36 : Int32).toNatClampNeg), g2_3, g2_8, g2_13) (trivial) [0, 1, 4, 5, 8, 9, 12, 13, 2, 3, 6, 7, 10, 11, 14, 15] [0] rfl (by decide) rfl rfl dX7_copyFrom_51

theorem dX4_forget_0 : decode cX4_forget 0 = .ok (.aload_n 0, 1) := by decide +kernel
theorem dX4_forget_1 : decode cX4_forget 1 = .ok (.iconst 0, 1) := by decide +kernel
theorem dX4_forget_2 : decode cX4_forget 2 = .ok (.putfield 37, 3) := by decide +kernel
theorem dX4_forget_5 : decode cX4_forget 5 = .ok (.aload_n 0, 1) := by decide +kernel
theorem dX4_forget_6 : decode cX4_forget 6 = .ok (.iconst 0, 1) := by decide +kernel
theorem dX4_forget_7 : decode cX4_forget 7 = .ok (.putfield 41, 3) := by decide +kernel
theorem dX4_forget_10 : decode cX4_forget 10 = .ok (.return_, 1) := by decide +kernel
set_option maxHeartbeats 4000000 in
set_option maxRecDepth 100000 in
theorem K_X4_forget (l : Launch) (D : va_G) (xj : Nat) (xp : Nat) (xl : Nat) (jj : Nat) (jh : Nat) (jw : Nat) (jo : Nat) (jb : Nat) (sz : Nat) : Kv l yX4_forget wsX4_forget 1 40 0 0 D [.ref xj] [(xj, .inr (3, [.ref xp, .ref xl, .ref jj, .int 0, .ref jh, .ref jw, .ref jo, .ref jb, .int 0, .int 0, .int 0, .int 0]))] [] sz (fun (_ : Unit) => True) (fun (_ : Unit) => [(xj, .inr (3, [.ref xp, .ref xl, .ref jj, .int 0, .ref jh, .ref jw, .ref jo, .ref jb, .int 0, .int 0, .int 0, .int 0]))]) (fun (_ : Unit) => []) := by
  unfold Kv
  refine g_ofW (cc := cX4_forget) (lv := [(0, .ref xj)]) (by decide) rfl (Nat.le_of_ble_eq_true rfl) rfl ?_
  intro p e s m args below meth c A Q hA hQ F hr hnm
  have hts := F.2.2.2.2.1
  have w_0 : (Cond.fieldLink RX4 37 "QuietCut$Jobs" "many" "I").before args s = true := hts _ (List.mem_of_getElem? (i := 1) rfl)
  have i_X4 : ∀ w ∈ u_ws RX4 TX4 12, w ∈ wsX4_forget := fun _ h => List.mem_cons_of_mem _ (List.mem_append_right _ h)
  have w_1 : (Cond.fieldLink RX4 41 "QuietCut$Jobs" "bestMany" "I").before args s = true := hts _ (List.mem_of_getElem? (i := 2) rfl)
  refine g_aload_n F 0 dX4_forget_0 rfl rfl ?_
  refine g_iconst F 0 dX4_forget_1 (by decide) ?_
  refine g_put (C := RX4) (T := TX4) (N := 12) (ty := .int) (v := .int 0) F i_X4 0 rfl rfl 3 (by decide) w_0 rfl tyX4 tyX4_ok nmX4 rfl (by decide +kernel) rfl rfl (Nat.le_of_ble_eq_true rfl) [(xj, .inr (3, [.ref xp, .ref xl, .ref jj, .int 0, .ref jh, .ref jw, .ref jo, .ref jb, .int 0, .int 0, .int 0, .int 0]))] rfl dX4_forget_2 ?_
  refine g_aload_n F 0 dX4_forget_5 rfl rfl ?_
  refine g_iconst F 0 dX4_forget_6 (by decide) ?_
  refine g_put (C := RX4) (T := TX4) (N := 12) (ty := .int) (v := .int 0) F i_X4 0 rfl rfl 8 (by decide) w_1 rfl tyX4 tyX4_ok nmX4 rfl (by decide +kernel) rfl rfl (Nat.le_of_ble_eq_true rfl) [(xj, .inr (3, [.ref xp, .ref xl, .ref jj, .int 0, .ref jh, .ref jw, .ref jo, .ref jb, .int 0, .int 0, .int 0, .int 0]))] rfl dX4_forget_7 ?_
  exact g_vret F hA hQ hr () (trivial) [0] [] rfl (by decide) rfl rfl dX4_forget_10

theorem dX2_forget_0 : decode cX2_forget 0 = .ok (.aload_n 0, 1) := by decide +kernel
theorem dX2_forget_1 : decode cX2_forget 1 = .ok (.iconst 0, 1) := by decide +kernel
theorem dX2_forget_2 : decode cX2_forget 2 = .ok (.putfield 40, 3) := by decide +kernel
theorem dX2_forget_5 : decode cX2_forget 5 = .ok (.aload_n 0, 1) := by decide +kernel
theorem dX2_forget_6 : decode cX2_forget 6 = .ok (.iconst 0, 1) := by decide +kernel
theorem dX2_forget_7 : decode cX2_forget 7 = .ok (.putfield 44, 3) := by decide +kernel
theorem dX2_forget_10 : decode cX2_forget 10 = .ok (.aload_n 0, 1) := by decide +kernel
theorem dX2_forget_11 : decode cX2_forget 11 = .ok (.iconst 0, 1) := by decide +kernel
theorem dX2_forget_12 : decode cX2_forget 12 = .ok (.putfield 47, 3) := by decide +kernel
theorem dX2_forget_15 : decode cX2_forget 15 = .ok (.aload_n 0, 1) := by decide +kernel
theorem dX2_forget_16 : decode cX2_forget 16 = .ok (.iconst 0, 1) := by decide +kernel
theorem dX2_forget_17 : decode cX2_forget 17 = .ok (.putfield 50, 3) := by decide +kernel
theorem dX2_forget_20 : decode cX2_forget 20 = .ok (.return_, 1) := by decide +kernel
set_option maxHeartbeats 4000000 in
set_option maxRecDepth 100000 in
theorem K_X2_forget (l : Launch) (D : va_G) (xe : Nat) (xs : Nat) (xl : Nat) (ef : Nat) (ev : Nat) (eh : Nat) (er : Nat) (sz : Nat) : Kv l yX2_forget wsX2_forget 1 40 0 0 D [.ref xe] [(xe, .inr (1, [.ref xs, .ref xl, .ref ef, .ref ev, .int 0, .ref eh, .int 0, .ref er, .int 0, .int 0]))] [] sz (fun (_ : Unit) => True) (fun (_ : Unit) => [(xe, .inr (1, [.ref xs, .ref xl, .ref ef, .ref ev, .int 0, .ref eh, .int 0, .ref er, .int 0, .int 0]))]) (fun (_ : Unit) => []) := by
  unfold Kv
  refine g_ofW (cc := cX2_forget) (lv := [(0, .ref xe)]) (by decide) rfl (Nat.le_of_ble_eq_true rfl) rfl ?_
  intro p e s m args below meth c A Q hA hQ F hr hnm
  have hts := F.2.2.2.2.1
  have w_0 : (Cond.fieldLink RX2 40 "QuietCut$Ear" "offers" "I").before args s = true := hts _ (List.mem_of_getElem? (i := 1) rfl)
  have i_X2 : ∀ w ∈ u_ws RX2 TX2 10, w ∈ wsX2_forget := fun _ h => List.mem_cons_of_mem _ (List.mem_append_right _ h)
  have w_1 : (Cond.fieldLink RX2 44 "QuietCut$Ear" "heards" "I").before args s = true := hts _ (List.mem_of_getElem? (i := 2) rfl)
  have w_2 : (Cond.fieldLink RX2 47 "QuietCut$Ear" "rights" "I").before args s = true := hts _ (List.mem_of_getElem? (i := 3) rfl)
  have w_3 : (Cond.fieldLink RX2 50 "QuietCut$Ear" "latestStep" "I").before args s = true := hts _ (List.mem_of_getElem? (i := 4) rfl)
  refine g_aload_n F 0 dX2_forget_0 rfl rfl ?_
  refine g_iconst F 0 dX2_forget_1 (by decide) ?_
  refine g_put (C := RX2) (T := TX2) (N := 10) (ty := .int) (v := .int 0) F i_X2 0 rfl rfl 4 (by decide) w_0 rfl tyX2 tyX2_ok nmX2 rfl (by decide +kernel) rfl rfl (Nat.le_of_ble_eq_true rfl) [(xe, .inr (1, [.ref xs, .ref xl, .ref ef, .ref ev, .int 0, .ref eh, .int 0, .ref er, .int 0, .int 0]))] rfl dX2_forget_2 ?_
  refine g_aload_n F 0 dX2_forget_5 rfl rfl ?_
  refine g_iconst F 0 dX2_forget_6 (by decide) ?_
  refine g_put (C := RX2) (T := TX2) (N := 10) (ty := .int) (v := .int 0) F i_X2 0 rfl rfl 6 (by decide) w_1 rfl tyX2 tyX2_ok nmX2 rfl (by decide +kernel) rfl rfl (Nat.le_of_ble_eq_true rfl) [(xe, .inr (1, [.ref xs, .ref xl, .ref ef, .ref ev, .int 0, .ref eh, .int 0, .ref er, .int 0, .int 0]))] rfl dX2_forget_7 ?_
  refine g_aload_n F 0 dX2_forget_10 rfl rfl ?_
  refine g_iconst F 0 dX2_forget_11 (by decide) ?_
  refine g_put (C := RX2) (T := TX2) (N := 10) (ty := .int) (v := .int 0) F i_X2 0 rfl rfl 8 (by decide) w_2 rfl tyX2 tyX2_ok nmX2 rfl (by decide +kernel) rfl rfl (Nat.le_of_ble_eq_true rfl) [(xe, .inr (1, [.ref xs, .ref xl, .ref ef, .ref ev, .int 0, .ref eh, .int 0, .ref er, .int 0, .int 0]))] rfl dX2_forget_12 ?_
  refine g_aload_n F 0 dX2_forget_15 rfl rfl ?_
  refine g_iconst F 0 dX2_forget_16 (by decide) ?_
  refine g_put (C := RX2) (T := TX2) (N := 10) (ty := .int) (v := .int 0) F i_X2 0 rfl rfl 9 (by decide) w_3 rfl tyX2 tyX2_ok nmX2 rfl (by decide +kernel) rfl rfl (Nat.le_of_ble_eq_true rfl) [(xe, .inr (1, [.ref xs, .ref xl, .ref ef, .ref ev, .int 0, .ref eh, .int 0, .ref er, .int 0, .int 0]))] rfl dX2_forget_17 ?_
  exact g_vret F hA hQ hr () (trivial) [0] [] rfl (by decide) rfl rfl dX2_forget_20

theorem dX11_shop_0 : decode cX11_shop 0 = .ok (.aload_n 0, 1) := by decide +kernel
theorem dX11_shop_1 : decode cX11_shop 1 = .ok (.aload_n 0, 1) := by decide +kernel
theorem dX11_shop_2 : decode cX11_shop 2 = .ok (.getfield 31, 3) := by decide +kernel
theorem dX11_shop_5 : decode cX11_shop 5 = .ok (.invokevirtual 104, 3) := by decide +kernel
theorem dX11_shop_8 : decode cX11_shop 8 = .ok (.invokevirtual 108, 3) := by decide +kernel
theorem dX11_shop_11 : decode cX11_shop 11 = .ok (.aload_n 0, 1) := by decide +kernel
theorem dX11_shop_12 : decode cX11_shop 12 = .ok (.getfield 111, 3) := by decide +kernel
theorem dX11_shop_15 : decode cX11_shop 15 = .ok (.ifCond .eq 5, 3) := by decide +kernel
theorem dX11_shop_18 : decode cX11_shop 18 = .ok (.iconst (-1), 1) := by decide +kernel
theorem dX11_shop_19 : decode cX11_shop 19 = .ok (.ireturn, 1) := by decide +kernel
theorem dX11_shop_20 : decode cX11_shop 20 = .ok (.aload_n 0, 1) := by decide +kernel
theorem dX11_shop_21 : decode cX11_shop 21 = .ok (.getfield 19, 3) := by decide +kernel
theorem dX11_shop_24 : decode cX11_shop 24 = .ok (.aload_n 0, 1) := by decide +kernel
theorem dX11_shop_25 : decode cX11_shop 25 = .ok (.getfield 23, 3) := by decide +kernel
theorem dX11_shop_28 : decode cX11_shop 28 = .ok (.invokevirtual 114, 3) := by decide +kernel
theorem dX11_shop_31 : decode cX11_shop 31 = .ok (.aload_n 0, 1) := by decide +kernel
theorem dX11_shop_32 : decode cX11_shop 32 = .ok (.getfield 40, 3) := by decide +kernel
theorem dX11_shop_35 : decode cX11_shop 35 = .ok (.sipush 1000, 3) := by decide +kernel
theorem dX11_shop_38 : decode cX11_shop 38 = .ok (.invokevirtual 117, 3) := by decide +kernel
theorem dX11_shop_41 : decode cX11_shop 41 = .ok (.aload_n 0, 1) := by decide +kernel
theorem dX11_shop_42 : decode cX11_shop 42 = .ok (.getfield 65, 3) := by decide +kernel
theorem dX11_shop_45 : decode cX11_shop 45 = .ok (.invokevirtual 120, 3) := by decide +kernel
theorem dX11_shop_48 : decode cX11_shop 48 = .ok (.aload_n 0, 1) := by decide +kernel
theorem dX11_shop_49 : decode cX11_shop 49 = .ok (.getfield 74, 3) := by decide +kernel
theorem dX11_shop_52 : decode cX11_shop 52 = .ok (.invokevirtual 123, 3) := by decide +kernel
theorem dX11_shop_55 : decode cX11_shop 55 = .ok (.aload_n 0, 1) := by decide +kernel
theorem dX11_shop_56 : decode cX11_shop 56 = .ok (.getfield 31, 3) := by decide +kernel
theorem dX11_shop_59 : decode cX11_shop 59 = .ok (.getfield 124, 3) := by decide +kernel
theorem dX11_shop_62 : decode cX11_shop 62 = .ok (.ireturn, 1) := by decide +kernel
set_option maxRecDepth 20000 in
theorem ggX11_shop_X11_noteFault : GoodIn wsX11_shop wsX11_noteFault := goodIn_r _ [324, 2, 325, 326, 327, 328, 364, 365, 366, 367, 368, 369, 370, 371, 372, 373, 374, 375, 376, 377, 385, 386, 387, 388, 389, 390] rfl (by decide +kernel)
set_option maxRecDepth 20000 in
theorem gX11_shop_X11_noteFault : GoodIn wsX11_shop (wsV RX11 108 RX11 yX11_noteFault wsX11_noteFault) := goodIn_app (goodIn_of _ (by decide +kernel)) ggX11_shop_X11_noteFault
set_option maxRecDepth 20000 in
theorem ggX11_shop_X2_forget : GoodIn wsX11_shop wsX2_forget := goodIn_r _ [359, 360, 361, 362, 363, 421, 422, 423, 424, 425, 426, 427, 428, 429, 430] rfl (by decide +kernel)
set_option maxRecDepth 20000 in
theorem gX11_shop_X2_forget : GoodIn wsX11_shop (wsV RX11 123 RX2 yX2_forget wsX2_forget) := goodIn_app (goodIn_of _ (by decide +kernel)) ggX11_shop_X2_forget
set_option maxRecDepth 20000 in
theorem ggX11_shop_X4_forget : GoodIn wsX11_shop wsX4_forget := goodIn_r _ [352, 353, 354, 409, 410, 411, 412, 413, 414, 415, 416, 417, 418, 419, 420] rfl (by decide +kernel)
set_option maxRecDepth 20000 in
theorem gX11_shop_X4_forget : GoodIn wsX11_shop (wsV RX11 120 RX4 yX4_forget wsX4_forget) := goodIn_app (goodIn_of _ (by decide +kernel)) ggX11_shop_X4_forget
set_option maxRecDepth 20000 in
theorem ggX11_shop_X6_makeFresh : GoodIn wsX11_shop wsX6_makeFresh := goodIn_r _ [342, 343, 344, 345, 346, 347, 35, 36, 37, 404, 405, 406, 407, 408] rfl (by decide +kernel)
set_option maxRecDepth 20000 in
theorem gX11_shop_X6_makeFresh : GoodIn wsX11_shop (wsV RX11 117 RX6 yX6_makeFresh wsX6_makeFresh) := goodIn_app (goodIn_of _ (by decide +kernel)) ggX11_shop_X6_makeFresh
set_option maxRecDepth 20000 in
theorem ggX11_shop_X7_copyFrom : GoodIn wsX11_shop wsX7_copyFrom := goodIn_r _ [332, 25, 27, 28, 29, 30, 31, 32, 33, 333, 334, 335, 41, 336, 43, 48, 337, 391, 392, 393, 394, 395, 396, 397, 398, 399, 400, 401, 402, 403] rfl (by decide +kernel)
set_option maxRecDepth 20000 in
theorem gX11_shop_X7_copyFrom : GoodIn wsX11_shop (wsV RX11 114 RX7 yX7_copyFrom wsX7_copyFrom) := goodIn_app (goodIn_of _ (by decide +kernel)) ggX11_shop_X7_copyFrom
set_option maxRecDepth 20000 in
theorem ggX11_shop_X8_read : GoodIn wsX11_shop wsX8_read := goodIn_r _ [13, 14, 15, 16, 17, 18, 19, 20, 21, 22, 23, 24, 25, 26, 27, 28, 29, 30, 31, 32, 33, 34, 35, 36, 37, 38, 39, 40, 41, 42, 43, 44, 45, 46, 47, 48, 49, 50, 51, 52, 53, 54, 55, 56, 57, 58, 59, 60, 61, 62, 63, 64, 65, 66, 67, 68, 69, 70, 71, 72, 73, 74, 75, 76, 77, 78, 79, 80, 81, 82, 83, 84, 85, 86, 87, 88, 89, 90, 91, 92, 93, 94, 95, 96, 97, 98, 99, 100, 101, 102, 103, 104, 105, 106, 107, 108, 109, 110, 111, 112, 113, 114, 115, 116, 117, 118, 119, 120, 121, 122, 123, 124, 125, 126, 127, 128, 129, 130, 131, 132, 133, 134, 135, 136, 137, 138, 139, 140, 141, 142, 143, 144, 145, 146, 147, 148, 149, 150, 151, 152, 153, 154, 155, 156, 157, 158, 159, 160, 161, 162, 163, 164, 165, 166, 167, 168, 169, 170, 171, 172, 173, 174, 175, 176, 177, 178, 179, 180, 12, 181, 182, 183, 184, 185, 186, 187, 188, 189, 190, 191, 192, 193, 194, 195, 196, 197, 198, 199, 200, 201, 202, 203, 204, 205, 206, 207, 208, 209, 210, 211, 212, 213, 214, 215, 216, 217, 218, 219, 220, 221, 222, 223, 224, 225, 226, 227, 228, 229, 230, 231, 232, 233, 234, 235, 236, 237, 238, 239, 240, 241, 242, 243, 244, 245, 246, 247, 248, 249, 250, 251, 252, 253, 254, 255, 256, 257, 258, 259, 260, 261, 262, 263, 264, 265, 266, 267, 268, 269, 270, 271, 272, 273, 274, 275, 276, 277, 278, 279, 280, 281, 282, 283, 284, 285, 286, 287, 288, 289, 290, 291, 292, 293, 294, 295, 296, 297, 298, 299, 300, 301, 302, 303, 304, 305, 306, 307, 308, 309, 310, 311, 312, 313, 314, 315, 316, 317, 318, 319, 378, 379, 380, 381, 382, 383, 384, 385, 386, 387, 388, 389, 390, 391, 392, 393, 394, 395, 396, 397, 398, 399, 400, 401, 402, 403] rfl (by decide +kernel)
set_option maxRecDepth 20000 in
theorem gX11_shop_X8_read : GoodIn wsX11_shop (wsV RX11 104 RX8 yX8_read wsX8_read) := goodIn_app (goodIn_of _ (by decide +kernel)) ggX11_shop_X8_read
set_option maxHeartbeats 4000000 in
set_option maxRecDepth 100000 in
theorem K_X11_shop (l : Launch) (D : va_G) (tz : Nat) (x0 : Nat) (xt : Nat) (xs : Nat) (xq : Nat) (xr : Nat) (xp : Nat) (xl : Nat) (xc : Nat) (xj : Nat) (xe : Nat) (xo : Nat) (pa : Nat) (tb : Nat) (n : Nat) (fo : Nat) (wa : Nat) (we : Nat) (cI : ClassId) (cf : Nat) (sf : Nat) (wf : Nat) (cg : Nat) (sg : Nat) (wg : Nat) (ch : Nat) (sh : Nat) (wh : Nat) (n2 : Nat) (fo2 : Nat) (wa2 : Nat) (we2 : Nat) (cf2 : Nat) (sf2 : Nat) (wf2 : Nat) (cg2 : Nat) (sg2 : Nat) (wg2 : Nat) (ch2 : Nat) (sh2 : Nat) (wh2 : Nat) (ph : Nat) (pl : Nat) (cII : ClassId) (pr : Nat → Nat) (jj : Nat) (jh : Nat) (jw : Nat) (jo : Nat) (jb : Nat) (ef : Nat) (ev : Nat) (eh : Nat) (er : Nat) (sz : Nat) : Kiz l yX11_shop wsX11_shop 5 113 0 0 D tz [.ref x0] [(x0, .inr (10, [.ref xt, .ref xs, .ref xq, .ref xr, .ref xp, .ref xl, .ref xc, .ref xj, .ref xe, .ref xo, .ref pa, .int 0, .int 0, .int (-1)])), (xr, .inr (7, [.ref xt, .ref xq, .int 0, .int 0, .int 0, .int 0, .int 0])), (xt, .inr (9, [.ref tb, .int 0, .int 0, .int 0, .int 0, .int 0])), (xs, .inr (6, [.ref n, .ref fo, .ref wa, .ref we])), (n, .inl (cI, 36, .inl g_nums)), (fo, .inr (2, [.ref cf, .int 1, .ref sf, .ref wf, .int 0, .int 0, .int 0, .int 0, .int 0])), (cf, .inl (cI, 80, .inl (upd (fun _ => 0) 0 (-1)))), (wa, .inr (2, [.ref cg, .int 1, .ref sg, .ref wg, .int 0, .int 0, .int 0, .int 0, .int 0])), (cg, .inl (cI, 80, .inl (upd (fun _ => 0) 0 0))), (we, .inr (2, [.ref ch, .int 1, .ref sh, .ref wh, .int 0, .int 0, .int 0, .int 0, .int 0])), (ch, .inl (cI, 80, .inl (upd (fun _ => 0) 0 0))), (xq, .inr (6, [.ref n2, .ref fo2, .ref wa2, .ref we2])), (n2, .inl (cI, 36, .inl g_nums)), (fo2, .inr (2, [.ref cf2, .int 1, .ref sf2, .ref wf2, .int 0, .int 0, .int 0, .int 0, .int 0])), (cf2, .inl (cI, 80, .inl (upd (fun _ => 0) 0 (-1)))), (wa2, .inr (2, [.ref cg2, .int 1, .ref sg2, .ref wg2, .int 0, .int 0, .int 0, .int 0, .int 0])), (cg2, .inl (cI, 80, .inl (upd (fun _ => 0) 0 0))), (we2, .inr (2, [.ref ch2, .int 1, .ref sh2, .ref wh2, .int 0, .int 0, .int 0, .int 0, .int 0])), (ch2, .inl (cI, 80, .inl (upd (fun _ => 0) 0 0))), (xp, .inr (5, [.ref xs, .ref ph, .int 0, .int 0, .ref pl])), (ph, .inl (cI, 96, .inl (fun _ => 1000))), (pl, .inl (cII, 4, .inr (.inr (.inr (.inr (fun i => if i < 4 then some (pr i) else none)))))), ((pr 0), .inl (cI, 96, .inl (fun _ => (-1)))), (xj, .inr (3, [.ref xp, .ref xl, .ref jj, .int 0, .ref jh, .ref jw, .ref jo, .ref jb, .int 0, .int 0, .int 0, .int 0])), (xe, .inr (1, [.ref xs, .ref xl, .ref ef, .ref ev, .int 0, .ref eh, .int 0, .ref er, .int 0, .int 0]))] [(cI, .int), (cII, .array .int)] sz (fun (r : Int32) (_ : Unit) => r = 0) (fun (_ : Unit) => [(x0, .inr (10, [.ref xt, .ref xs, .ref xq, .ref xr, .ref xp, .ref xl, .ref xc, .ref xj, .ref xe, .ref xo, .ref pa, .int 0, .int 0, .int (-1)]))]) (fun (_ : Unit) => [(cI, .int), (cII, .array .int)]) := by
  unfold Kiz
  refine g_ofWz (cc := cX11_shop) (lv := [(0, .ref x0)]) (by decide) rfl (Nat.le_of_ble_eq_true rfl) rfl ?_
  intro p e s m args below meth c A Q hA hQ Z F hr hnm
  have hts := F.2.2.2.2.1
  have w_0 : (Cond.fieldLink RX11 31 "QuietCut" "reader" "LQuietCut$ShopReader;").before args s = true := hts _ (List.mem_of_getElem? (i := 1) rfl)
  have i_X11 : ∀ w ∈ u_ws RX11 TX11 14, w ∈ wsX11_shop := fun _ h => List.mem_cons_of_mem _ (List.mem_append_left _ (List.mem_append_left _ (List.mem_append_left _ (List.mem_append_left _ (List.mem_append_left _ (List.mem_append_left _ (List.mem_append_left _ (List.mem_append_right _ h))))))))
  have w_1 : (Cond.fieldLink RX11 111 "QuietCut" "faultKind" "I").before args s = true := hts _ (List.mem_of_getElem? (i := 2) rfl)
  have w_2 : (Cond.fieldLink RX11 19 "QuietCut" "shop" "LQuietCut$Shop;").before args s = true := hts _ (List.mem_of_getElem? (i := 3) rfl)
  have w_3 : (Cond.fieldLink RX11 23 "QuietCut" "spareShop" "LQuietCut$Shop;").before args s = true := hts _ (List.mem_of_getElem? (i := 4) rfl)
  have w_4 : (Cond.fieldLink RX11 40 "QuietCut" "piece" "LQuietCut$Piece;").before args s = true := hts _ (List.mem_of_getElem? (i := 5) rfl)
  have w_5 : (Cond.fieldLink RX11 65 "QuietCut" "jobs" "LQuietCut$Jobs;").before args s = true := hts _ (List.mem_of_getElem? (i := 6) rfl)
  have w_6 : (Cond.fieldLink RX11 74 "QuietCut" "ear" "LQuietCut$Ear;").before args s = true := hts _ (List.mem_of_getElem? (i := 7) rfl)
  have w_7 : (Cond.fieldLink RX11 124 "QuietCut$ShopReader" "clauses" "I").before args s = true := hts _ (List.mem_of_getElem? (i := 8) rfl)
  have i_X8 : ∀ w ∈ u_ws RX8 TX8 7, w ∈ wsX11_shop := fun _ h => List.mem_cons_of_mem _ (List.mem_append_left _ (List.mem_append_left _ (List.mem_append_left _ (List.mem_append_left _ (List.mem_append_left _ (List.mem_append_left _ (List.mem_append_right _ h)))))))
  refine g_aload_n F 0 dX11_shop_0 rfl rfl ?_
  refine g_aload_n F 0 dX11_shop_1 rfl rfl ?_
  refine g_get (C := RX11) (T := TX11) (N := 14) (v := .ref xr) F i_X11 0 rfl rfl 3 (by decide) w_0 rfl rfl dX11_shop_2 ?_
  refine g_callViz (k := 0) (n := 0) (b := xr) (As := []) (st := [.ref x0]) (wc := [(xr, .inr (7, [.ref xt, .ref xq, .int 0, .int 0, .int 0, .int 0, .int 0])), (xt, .inr (9, [.ref tb, .int 0, .int 0, .int 0, .int 0, .int 0])), (xq, .inr (6, [.ref n2, .ref fo2, .ref wa2, .ref we2])), (n2, .inl (cI, 36, .inl g_nums)), (fo2, .inr (2, [.ref cf2, .int 1, .ref sf2, .ref wf2, .int 0, .int 0, .int 0, .int 0, .int 0])), (cf2, .inl (cI, 80, .inl (upd (fun _ => 0) 0 (-1)))), (wa2, .inr (2, [.ref cg2, .int 1, .ref sg2, .ref wg2, .int 0, .int 0, .int 0, .int 0, .int 0])), (cg2, .inl (cI, 80, .inl (upd (fun _ => 0) 0 0))), (we2, .inr (2, [.ref ch2, .int 1, .ref sh2, .ref wh2, .int 0, .int 0, .int 0, .int 0, .int 0])), (ch2, .inl (cI, 80, .inl (upd (fun _ => 0) 0 0)))]) (wr := [(x0, .inr (10, [.ref xt, .ref xs, .ref xq, .ref xr, .ref xp, .ref xl, .ref xc, .ref xj, .ref xe, .ref xo, .ref pa, .int 0, .int 0, .int (-1)])), (xs, .inr (6, [.ref n, .ref fo, .ref wa, .ref we])), (n, .inl (cI, 36, .inl g_nums)), (fo, .inr (2, [.ref cf, .int 1, .ref sf, .ref wf, .int 0, .int 0, .int 0, .int 0, .int 0])), (cf, .inl (cI, 80, .inl (upd (fun _ => 0) 0 (-1)))), (wa, .inr (2, [.ref cg, .int 1, .ref sg, .ref wg, .int 0, .int 0, .int 0, .int 0, .int 0])), (cg, .inl (cI, 80, .inl (upd (fun _ => 0) 0 0))), (we, .inr (2, [.ref ch, .int 1, .ref sh, .ref wh, .int 0, .int 0, .int 0, .int 0, .int 0])), (ch, .inl (cI, 80, .inl (upd (fun _ => 0) 0 0))), (xp, .inr (5, [.ref xs, .ref ph, .int 0, .int 0, .ref pl])), (ph, .inl (cI, 96, .inl (fun _ => 1000))), (pl, .inl (cII, 4, .inr (.inr (.inr (.inr (fun i => if i < 4 then some (pr i) else none)))))), ((pr 0), .inl (cI, 96, .inl (fun _ => (-1)))), (xj, .inr (3, [.ref xp, .ref xl, .ref jj, .int 0, .ref jh, .ref jw, .ref jo, .ref jb, .int 0, .int 0, .int 0, .int 0])), (xe, .inr (1, [.ref xs, .ref xl, .ref ef, .ref ev, .int 0, .ref eh, .int 0, .ref er, .int 0, .int 0]))]) F [1, 2, 11, 12, 13, 14, 15, 16, 17, 18] [0, 3, 4, 5, 6, 7, 8, 9, 10, 19, 20, 21, 22, 23, 24] [0] rfl rfl (by decide) rfl (by decide) (by decide) rfl Z (fun sz => K_X8_read l D tz xr xt xq tb n2 fo2 wa2 we2 cI cf2 sf2 wf2 cg2 sg2 wg2 ch2 sh2 wh2  sz) (cwV 0 hts gX11_shop_X8_read rfl rfl rfl (by decide +kernel) ⟨Nat.le_of_ble_eq_true rfl, Nat.le_of_ble_eq_true rfl⟩) rfl 0 rfl rfl (Nat.le_of_ble_eq_true rfl) ⟨Nat.le_of_ble_eq_true rfl, Nat.le_of_ble_eq_true rfl⟩ dX11_shop_5 (fun r_1 u_0 hw_2 => ?_)
  obtain ⟨g1_3, g2_3, g3_3⟩ := u_0
  have hw_2 : r_1 = 0 := hw_2
  have e_r_1 := hw_2
  show gG p l e (gR 5 0 0 113) s m args below meth c D A 1 Q 0 0 [(x0, .inr (10, [.ref xt, .ref xs, .ref xq, .ref xr, .ref xp, .ref xl, .ref xc, .ref xj, .ref xe, .ref xo, .ref pa, .int 0, .int 0, .int (-1)])), (xs, .inr (6, [.ref n, .ref fo, .ref wa, .ref we])), (n, .inl (cI, 36, .inl g_nums)), (fo, .inr (2, [.ref cf, .int 1, .ref sf, .ref wf, .int 0, .int 0, .int 0, .int 0, .int 0])), (cf, .inl (cI, 80, .inl (upd (fun _ => 0) 0 (-1)))), (wa, .inr (2, [.ref cg, .int 1, .ref sg, .ref wg, .int 0, .int 0, .int 0, .int 0, .int 0])), (cg, .inl (cI, 80, .inl (upd (fun _ => 0) 0 0))), (we, .inr (2, [.ref ch, .int 1, .ref sh, .ref wh, .int 0, .int 0, .int 0, .int 0, .int 0])), (ch, .inl (cI, 80, .inl (upd (fun _ => 0) 0 0))), (xp, .inr (5, [.ref xs, .ref ph, .int 0, .int 0, .ref pl])), (ph, .inl (cI, 96, .inl (fun _ => 1000))), (pl, .inl (cII, 4, .inr (.inr (.inr (.inr (fun i => if i < 4 then some (pr i) else none)))))), ((pr 0), .inl (cI, 96, .inl (fun _ => (-1)))), (xj, .inr (3, [.ref xp, .ref xl, .ref jj, .int 0, .ref jh, .ref jw, .ref jo, .ref jb, .int 0, .int 0, .int 0, .int 0])), (xe, .inr (1, [.ref xs, .ref xl, .ref ef, .ref ev, .int 0, .ref eh, .int 0, .ref er, .int 0, .int 0])), (xr, .inr (7, [.ref xt, .ref xq, .int 0, .int 0, .int (-1), .int 0, .int 0])), (xt, .inr (9, [.ref tb, .int 0, .int 0, .int 0, .int 0, .int 0])), (xq, .inr (6, [.ref n2, .ref fo2, .ref wa2, .ref we2])), (n2, .inl (cI, 36, .inl g_nums)), (fo2, .inr (2, [.ref cf2, .int 1, .ref sf2, .ref wf2, .int 0, .int 0, .int 0, .int 0, .int 0])), (cf2, .inl (cI, 80, .inl g1_3)), (wa2, .inr (2, [.ref cg2, .int 1, .ref sg2, .ref wg2, .int 0, .int 0, .int 0, .int 0, .int 0])), (cg2, .inl (cI, 80, .inl g2_3)), (we2, .inr (2, [.ref ch2, .int 1, .ref sh2, .ref wh2, .int 0, .int 0, .int 0, .int 0, .int 0])), (ch2, .inl (cI, 80, .inl g3_3))] [(cI, .int), (cII, .array .int)] [(0, .ref x0)] 8 [.int r_1, .ref x0]
  refine g_fold 0 e_r_1 ?_
  refine g_callVv (k := 0) (n := 0) (b := x0) (As := [.int 0]) (st := []) (wc := [(x0, .inr (10, [.ref xt, .ref xs, .ref xq, .ref xr, .ref xp, .ref xl, .ref xc, .ref xj, .ref xe, .ref xo, .ref pa, .int 0, .int 0, .int (-1)])), (xt, .inr (9, [.ref tb, .int 0, .int 0, .int 0, .int 0, .int 0]))]) (wr := [(xs, .inr (6, [.ref n, .ref fo, .ref wa, .ref we])), (n, .inl (cI, 36, .inl g_nums)), (fo, .inr (2, [.ref cf, .int 1, .ref sf, .ref wf, .int 0, .int 0, .int 0, .int 0, .int 0])), (cf, .inl (cI, 80, .inl (upd (fun _ => 0) 0 (-1)))), (wa, .inr (2, [.ref cg, .int 1, .ref sg, .ref wg, .int 0, .int 0, .int 0, .int 0, .int 0])), (cg, .inl (cI, 80, .inl (upd (fun _ => 0) 0 0))), (we, .inr (2, [.ref ch, .int 1, .ref sh, .ref wh, .int 0, .int 0, .int 0, .int 0, .int 0])), (ch, .inl (cI, 80, .inl (upd (fun _ => 0) 0 0))), (xp, .inr (5, [.ref xs, .ref ph, .int 0, .int 0, .ref pl])), (ph, .inl (cI, 96, .inl (fun _ => 1000))), (pl, .inl (cII, 4, .inr (.inr (.inr (.inr (fun i => if i < 4 then some (pr i) else none)))))), ((pr 0), .inl (cI, 96, .inl (fun _ => (-1)))), (xj, .inr (3, [.ref xp, .ref xl, .ref jj, .int 0, .ref jh, .ref jw, .ref jo, .ref jb, .int 0, .int 0, .int 0, .int 0])), (xe, .inr (1, [.ref xs, .ref xl, .ref ef, .ref ev, .int 0, .ref eh, .int 0, .ref er, .int 0, .int 0])), (xr, .inr (7, [.ref xt, .ref xq, .int 0, .int 0, .int (-1), .int 0, .int 0])), (xq, .inr (6, [.ref n2, .ref fo2, .ref wa2, .ref we2])), (n2, .inl (cI, 36, .inl g_nums)), (fo2, .inr (2, [.ref cf2, .int 1, .ref sf2, .ref wf2, .int 0, .int 0, .int 0, .int 0, .int 0])), (cf2, .inl (cI, 80, .inl g1_3)), (wa2, .inr (2, [.ref cg2, .int 1, .ref sg2, .ref wg2, .int 0, .int 0, .int 0, .int 0, .int 0])), (cg2, .inl (cI, 80, .inl g2_3)), (we2, .inr (2, [.ref ch2, .int 1, .ref sh2, .ref wh2, .int 0, .int 0, .int 0, .int 0, .int 0])), (ch2, .inl (cI, 80, .inl g3_3))]) F [0, 16] [1, 2, 3, 4, 5, 6, 7, 8, 9, 10, 11, 12, 13, 14, 15, 17, 18, 19, 20, 21, 22, 23, 24] [] rfl rfl (by decide) rfl (by decide) (by decide) rfl (fun sz => K_X11_noteFault0 l D x0 xt xs xq xr xp xl xc xj xe xo pa tb  sz) (cwV 1 hts gX11_shop_X11_noteFault rfl rfl rfl (by decide +kernel) ⟨Nat.le_of_ble_eq_true rfl, Nat.le_of_ble_eq_true rfl⟩) rfl 0 rfl rfl (Nat.le_of_ble_eq_true rfl) ⟨Nat.le_of_ble_eq_true rfl, Nat.le_of_ble_eq_true rfl⟩ dX11_shop_8 (fun _ hw_7 => ?_)
  show gG p l e (gR 5 0 0 113) s m args below meth c D A 1 Q 0 0 [(xs, .inr (6, [.ref n, .ref fo, .ref wa, .ref we])), (n, .inl (cI, 36, .inl g_nums)), (fo, .inr (2, [.ref cf, .int 1, .ref sf, .ref wf, .int 0, .int 0, .int 0, .int 0, .int 0])), (cf, .inl (cI, 80, .inl (upd (fun _ => 0) 0 (-1)))), (wa, .inr (2, [.ref cg, .int 1, .ref sg, .ref wg, .int 0, .int 0, .int 0, .int 0, .int 0])), (cg, .inl (cI, 80, .inl (upd (fun _ => 0) 0 0))), (we, .inr (2, [.ref ch, .int 1, .ref sh, .ref wh, .int 0, .int 0, .int 0, .int 0, .int 0])), (ch, .inl (cI, 80, .inl (upd (fun _ => 0) 0 0))), (xp, .inr (5, [.ref xs, .ref ph, .int 0, .int 0, .ref pl])), (ph, .inl (cI, 96, .inl (fun _ => 1000))), (pl, .inl (cII, 4, .inr (.inr (.inr (.inr (fun i => if i < 4 then some (pr i) else none)))))), ((pr 0), .inl (cI, 96, .inl (fun _ => (-1)))), (xj, .inr (3, [.ref xp, .ref xl, .ref jj, .int 0, .ref jh, .ref jw, .ref jo, .ref jb, .int 0, .int 0, .int 0, .int 0])), (xe, .inr (1, [.ref xs, .ref xl, .ref ef, .ref ev, .int 0, .ref eh, .int 0, .ref er, .int 0, .int 0])), (xr, .inr (7, [.ref xt, .ref xq, .int 0, .int 0, .int (-1), .int 0, .int 0])), (xq, .inr (6, [.ref n2, .ref fo2, .ref wa2, .ref we2])), (n2, .inl (cI, 36, .inl g_nums)), (fo2, .inr (2, [.ref cf2, .int 1, .ref sf2, .ref wf2, .int 0, .int 0, .int 0, .int 0, .int 0])), (cf2, .inl (cI, 80, .inl g1_3)), (wa2, .inr (2, [.ref cg2, .int 1, .ref sg2, .ref wg2, .int 0, .int 0, .int 0, .int 0, .int 0])), (cg2, .inl (cI, 80, .inl g2_3)), (we2, .inr (2, [.ref ch2, .int 1, .ref sh2, .ref wh2, .int 0, .int 0, .int 0, .int 0, .int 0])), (ch2, .inl (cI, 80, .inl g3_3)), (x0, .inr (10, [.ref xt, .ref xs, .ref xq, .ref xr, .ref xp, .ref xl, .ref xc, .ref xj, .ref xe, .ref xo, .ref pa, .int 0, .int 0, .int (-1)])), (xt, .inr (9, [.ref tb, .int 0, .int 0, .int 0, .int 0, .int 0]))] [(cI, .int), (cII, .array .int)] [(0, .ref x0)] 11 []
  refine g_aload_n F 0 dX11_shop_11 rfl rfl ?_
  refine g_get (C := RX11) (T := TX11) (N := 14) (v := .int 0) F i_X11 23 rfl rfl 12 (by decide) w_1 rfl rfl dX11_shop_12 ?_
  refine g_if_eq F 20 dX11_shop_15 (by decide) (fun c_15 => ?_) (fun h9 => absurd (by decide) h9) 
  refine g_aload_n F 0 dX11_shop_20 rfl rfl ?_
  refine g_get (C := RX11) (T := TX11) (N := 14) (v := .ref xs) F i_X11 23 rfl rfl 1 (by decide) w_2 rfl rfl dX11_shop_21 ?_
  refine g_aload_n F 0 dX11_shop_24 rfl rfl ?_
  refine g_get (C := RX11) (T := TX11) (N := 14) (v := .ref xq) F i_X11 23 rfl rfl 2 (by decide) w_3 rfl rfl dX11_shop_25 ?_
  refine g_callVv (k := 0) (n := 0) (b := xs) (As := [.ref xq]) (st := []) (wc := [(xs, .inr (6, [.ref n, .ref fo, .ref wa, .ref we])), (n, .inl (cI, 36, .inl g_nums)), (fo, .inr (2, [.ref cf, .int 1, .ref sf, .ref wf, .int 0, .int 0, .int 0, .int 0, .int 0])), (cf, .inl (cI, 80, .inl (upd (fun _ => 0) 0 (-1)))), (wa, .inr (2, [.ref cg, .int 1, .ref sg, .ref wg, .int 0, .int 0, .int 0, .int 0, .int 0])), (cg, .inl (cI, 80, .inl (upd (fun _ => 0) 0 0))), (we, .inr (2, [.ref ch, .int 1, .ref sh, .ref wh, .int 0, .int 0, .int 0, .int 0, .int 0])), (ch, .inl (cI, 80, .inl (upd (fun _ => 0) 0 0))), (xq, .inr (6, [.ref n2, .ref fo2, .ref wa2, .ref we2])), (n2, .inl (cI, 36, .inl g_nums)), (fo2, .inr (2, [.ref cf2, .int 1, .ref sf2, .ref wf2, .int 0, .int 0, .int 0, .int 0, .int 0])), (cf2, .inl (cI, 80, .inl g1_3)), (wa2, .inr (2, [.ref cg2, .int 1, .ref sg2, .ref wg2, .int 0, .int 0, .int 0, .int 0, .int 0])), (cg2, .inl (cI, 80, .inl g2_3)), (we2, .inr (2, [.ref ch2, .int 1, .ref sh2, .ref wh2, .int 0, .int 0, .int 0, .int 0, .int 0])), (ch2, .inl (cI, 80, .inl g3_3))]) (wr := [(xp, .inr (5, [.ref xs, .ref ph, .int 0, .int 0, .ref pl])), (ph, .inl (cI, 96, .inl (fun _ => 1000))), (pl, .inl (cII, 4, .inr (.inr (.inr (.inr (fun i => if i < 4 then some (pr i) else none)))))), ((pr 0), .inl (cI, 96, .inl (fun _ => (-1)))), (xj, .inr (3, [.ref xp, .ref xl, .ref jj, .int 0, .ref jh, .ref jw, .ref jo, .ref jb, .int 0, .int 0, .int 0, .int 0])), (xe, .inr (1, [.ref xs, .ref xl, .ref ef, .ref ev, .int 0, .ref eh, .int 0, .ref er, .int 0, .int 0])), (xr, .inr (7, [.ref xt, .ref xq, .int 0, .int 0, .int (-1), .int 0, .int 0])), (x0, .inr (10, [.ref xt, .ref xs, .ref xq, .ref xr, .ref xp, .ref xl, .ref xc, .ref xj, .ref xe, .ref xo, .ref pa, .int 0, .int 0, .int (-1)])), (xt, .inr (9, [.ref tb, .int 0, .int 0, .int 0, .int 0, .int 0]))]) F [0, 1, 2, 3, 4, 5, 6, 7, 15, 16, 17, 18, 19, 20, 21, 22] [8, 9, 10, 11, 12, 13, 14, 23, 24] [0] rfl rfl (by decide) rfl (by decide) (by decide) rfl (fun sz => K_X7_copyFrom l D xs n fo wa we cI cf sf wf cg sg wg ch sh wh xq n2 fo2 wa2 we2 cf2 sf2 wf2 cg2 sg2 wg2 ch2 sh2 wh2 g1_3 g2_3 g3_3  sz) (cwV 1 hts gX11_shop_X7_copyFrom rfl rfl rfl (by decide +kernel) ⟨Nat.le_of_ble_eq_true rfl, Nat.le_of_ble_eq_true rfl⟩) rfl 0 rfl rfl (Nat.le_of_ble_eq_true rfl) ⟨Nat.le_of_ble_eq_true rfl, Nat.le_of_ble_eq_true rfl⟩ dX11_shop_28 (fun u_10 hw_12 => ?_)
  obtain ⟨g0_13, g1_13, g2_13, g3_13⟩ := u_10
  show gG p l e (gR 5 0 0 113) s m args below meth c D A 1 Q 0 0 [(xp, .inr (5, [.ref xs, .ref ph, .int 0, .int 0, .ref pl])), (ph, .inl (cI, 96, .inl (fun _ => 1000))), (pl, .inl (cII, 4, .inr (.inr (.inr (.inr (fun i => if i < 4 then some (pr i) else none)))))), ((pr 0), .inl (cI, 96, .inl (fun _ => (-1)))), (xj, .inr (3, [.ref xp, .ref xl, .ref jj, .int 0, .ref jh, .ref jw, .ref jo, .ref jb, .int 0, .int 0, .int 0, .int 0])), (xe, .inr (1, [.ref xs, .ref xl, .ref ef, .ref ev, .int 0, .ref eh, .int 0, .ref er, .int 0, .int 0])), (xr, .inr (7, [.ref xt, .ref xq, .int 0, .int 0, .int (-1), .int 0, .int 0])), (x0, .inr (10, [.ref xt, .ref xs, .ref xq, .ref xr, .ref xp, .ref xl, .ref xc, .ref xj, .ref xe, .ref xo, .ref pa, .int 0, .int 0, .int (-1)])), (xt, .inr (9, [.ref tb, .int 0, .int 0, .int 0, .int 0, .int 0])), (xs, .inr (6, [.ref n, .ref fo, .ref wa, .ref we])), (n, .inl (cI, 36, .inl g0_13)), (fo, .inr (2, [.ref cf, .int 1, .ref sf, .ref wf, .int 0, .int 0, .int 0, .int 0, .int 0])), (cf, .inl (cI, 80, .inl g1_13)), (wa, .inr (2, [.ref cg, .int 1, .ref sg, .ref wg, .int 0, .int 0, .int 0, .int 0, .int 0])), (cg, .inl (cI, 80, .inl g2_13)), (we, .inr (2, [.ref ch, .int 1, .ref sh, .ref wh, .int 0, .int 0, .int 0, .int 0, .int 0])), (ch, .inl (cI, 80, .inl g3_13)), (xq, .inr (6, [.ref n2, .ref fo2, .ref wa2, .ref we2])), (n2, .inl (cI, 36, .inl g_nums)), (fo2, .inr (2, [.ref cf2, .int 1, .ref sf2, .ref wf2, .int 0, .int 0, .int 0, .int 0, .int 0])), (cf2, .inl (cI, 80, .inl g1_3)), (wa2, .inr (2, [.ref cg2, .int 1, .ref sg2, .ref wg2, .int 0, .int 0, .int 0, .int 0, .int 0])), (cg2, .inl (cI, 80, .inl g2_3)), (we2, .inr (2, [.ref ch2, .int 1, .ref sh2, .ref wh2, .int 0, .int 0, .int 0, .int 0, .int 0])), (ch2, .inl (cI, 80, .inl g3_3))] [(cI, .int), (cII, .array .int)] [(0, .ref x0)] 31 []
  refine g_aload_n F 0 dX11_shop_31 rfl rfl ?_
  refine g_get (C := RX11) (T := TX11) (N := 14) (v := .ref xp) F i_X11 7 rfl rfl 4 (by decide) w_4 rfl rfl dX11_shop_32 ?_
  refine g_sipush F 1000 dX11_shop_35 (by decide) ?_
  refine g_callVv (k := 0) (n := 0) (b := xp) (As := [.int 1000]) (st := []) (wc := [(xp, .inr (5, [.ref xs, .ref ph, .int 0, .int 0, .ref pl])), (ph, .inl (cI, 96, .inl (fun _ => 1000))), (pl, .inl (cII, 4, .inr (.inr (.inr (.inr (fun i => if i < 4 then some (pr i) else none)))))), ((pr 0), .inl (cI, 96, .inl (fun _ => (-1))))]) (wr := [(xj, .inr (3, [.ref xp, .ref xl, .ref jj, .int 0, .ref jh, .ref jw, .ref jo, .ref jb, .int 0, .int 0, .int 0, .int 0])), (xe, .inr (1, [.ref xs, .ref xl, .ref ef, .ref ev, .int 0, .ref eh, .int 0, .ref er, .int 0, .int 0])), (xr, .inr (7, [.ref xt, .ref xq, .int 0, .int 0, .int (-1), .int 0, .int 0])), (x0, .inr (10, [.ref xt, .ref xs, .ref xq, .ref xr, .ref xp, .ref xl, .ref xc, .ref xj, .ref xe, .ref xo, .ref pa, .int 0, .int 0, .int (-1)])), (xt, .inr (9, [.ref tb, .int 0, .int 0, .int 0, .int 0, .int 0])), (xs, .inr (6, [.ref n, .ref fo, .ref wa, .ref we])), (n, .inl (cI, 36, .inl g0_13)), (fo, .inr (2, [.ref cf, .int 1, .ref sf, .ref wf, .int 0, .int 0, .int 0, .int 0, .int 0])), (cf, .inl (cI, 80, .inl g1_13)), (wa, .inr (2, [.ref cg, .int 1, .ref sg, .ref wg, .int 0, .int 0, .int 0, .int 0, .int 0])), (cg, .inl (cI, 80, .inl g2_13)), (we, .inr (2, [.ref ch, .int 1, .ref sh, .ref wh, .int 0, .int 0, .int 0, .int 0, .int 0])), (ch, .inl (cI, 80, .inl g3_13)), (xq, .inr (6, [.ref n2, .ref fo2, .ref wa2, .ref we2])), (n2, .inl (cI, 36, .inl g_nums)), (fo2, .inr (2, [.ref cf2, .int 1, .ref sf2, .ref wf2, .int 0, .int 0, .int 0, .int 0, .int 0])), (cf2, .inl (cI, 80, .inl g1_3)), (wa2, .inr (2, [.ref cg2, .int 1, .ref sg2, .ref wg2, .int 0, .int 0, .int 0, .int 0, .int 0])), (cg2, .inl (cI, 80, .inl g2_3)), (we2, .inr (2, [.ref ch2, .int 1, .ref sh2, .ref wh2, .int 0, .int 0, .int 0, .int 0, .int 0])), (ch2, .inl (cI, 80, .inl g3_3))]) F [0, 1, 2, 3] [4, 5, 6, 7, 8, 9, 10, 11, 12, 13, 14, 15, 16, 17, 18, 19, 20, 21, 22, 23, 24] [0, 1] rfl rfl (by decide) rfl (by decide) (by decide) rfl (fun sz => K_X6_makeFresh l D xp xs ph pl pr cI cII 0 0 (fun _ => 1000) (fun _ => (-1)) 1000  sz) (cwV 1 hts gX11_shop_X6_makeFresh rfl rfl rfl (by decide +kernel) ⟨Nat.le_of_ble_eq_true rfl, Nat.le_of_ble_eq_true rfl⟩) rfl 0 rfl rfl (Nat.le_of_ble_eq_true rfl) ⟨Nat.le_of_ble_eq_true rfl, Nat.le_of_ble_eq_true rfl⟩ dX11_shop_38 (fun _ hw_17 => ?_)
  show gG p l e (gR 5 0 0 113) s m args below meth c D A 1 Q 0 0 [(xj, .inr (3, [.ref xp, .ref xl, .ref jj, .int 0, .ref jh, .ref jw, .ref jo, .ref jb, .int 0, .int 0, .int 0, .int 0])), (xe, .inr (1, [.ref xs, .ref xl, .ref ef, .ref ev, .int 0, .ref eh, .int 0, .ref er, .int 0, .int 0])), (xr, .inr (7, [.ref xt, .ref xq, .int 0, .int 0, .int (-1), .int 0, .int 0])), (x0, .inr (10, [.ref xt, .ref xs, .ref xq, .ref xr, .ref xp, .ref xl, .ref xc, .ref xj, .ref xe, .ref xo, .ref pa, .int 0, .int 0, .int (-1)])), (xt, .inr (9, [.ref tb, .int 0, .int 0, .int 0, .int 0, .int 0])), (xs, .inr (6, [.ref n, .ref fo, .ref wa, .ref we])), (n, .inl (cI, 36, .inl g0_13)), (fo, .inr (2, [.ref cf, .int 1, .ref sf, .ref wf, .int 0, .int 0, .int 0, .int 0, .int 0])), (cf, .inl (cI, 80, .inl g1_13)), (wa, .inr (2, [.ref cg, .int 1, .ref sg, .ref wg, .int 0, .int 0, .int 0, .int 0, .int 0])), (cg, .inl (cI, 80, .inl g2_13)), (we, .inr (2, [.ref ch, .int 1, .ref sh, .ref wh, .int 0, .int 0, .int 0, .int 0, .int 0])), (ch, .inl (cI, 80, .inl g3_13)), (xq, .inr (6, [.ref n2, .ref fo2, .ref wa2, .ref we2])), (n2, .inl (cI, 36, .inl g_nums)), (fo2, .inr (2, [.ref cf2, .int 1, .ref sf2, .ref wf2, .int 0, .int 0, .int 0, .int 0, .int 0])), (cf2, .inl (cI, 80, .inl g1_3)), (wa2, .inr (2, [.ref cg2, .int 1, .ref sg2, .ref wg2, .int 0, .int 0, .int 0, .int 0, .int 0])), (cg2, .inl (cI, 80, .inl g2_3)), (we2, .inr (2, [.ref ch2, .int 1, .ref sh2, .ref wh2, .int 0, .int 0, .int 0, .int 0, .int 0])), (ch2, .inl (cI, 80, .inl g3_3)), (xp, .inr (5, [.ref xs, .ref ph, .int 0, .int 0, .ref pl])), (ph, .inl (cI, 96, .inl (fun _ => 1000))), (pl, .inl (cII, 4, .inr (.inr (.inr (.inr (fun i => if i < 4 then some (pr i) else none)))))), ((pr 0), .inl (cI, 96, .inl (fun _ => (-1))))] [(cI, .int), (cII, .array .int)] [(0, .ref x0)] 41 []
  refine g_aload_n F 0 dX11_shop_41 rfl rfl ?_
  refine g_get (C := RX11) (T := TX11) (N := 14) (v := .ref xj) F i_X11 3 rfl rfl 7 (by decide) w_5 rfl rfl dX11_shop_42 ?_
  refine g_callVv (k := 0) (n := 0) (b := xj) (As := []) (st := []) (wc := [(xj, .inr (3, [.ref xp, .ref xl, .ref jj, .int 0, .ref jh, .ref jw, .ref jo, .ref jb, .int 0, .int 0, .int 0, .int 0]))]) (wr := [(xe, .inr (1, [.ref xs, .ref xl, .ref ef, .ref ev, .int 0, .ref eh, .int 0, .ref er, .int 0, .int 0])), (xr, .inr (7, [.ref xt, .ref xq, .int 0, .int 0, .int (-1), .int 0, .int 0])), (x0, .inr (10, [.ref xt, .ref xs, .ref xq, .ref xr, .ref xp, .ref xl, .ref xc, .ref xj, .ref xe, .ref xo, .ref pa, .int 0, .int 0, .int (-1)])), (xt, .inr (9, [.ref tb, .int 0, .int 0, .int 0, .int 0, .int 0])), (xs, .inr (6, [.ref n, .ref fo, .ref wa, .ref we])), (n, .inl (cI, 36, .inl g0_13)), (fo, .inr (2, [.ref cf, .int 1, .ref sf, .ref wf, .int 0, .int 0, .int 0, .int 0, .int 0])), (cf, .inl (cI, 80, .inl g1_13)), (wa, .inr (2, [.ref cg, .int 1, .ref sg, .ref wg, .int 0, .int 0, .int 0, .int 0, .int 0])), (cg, .inl (cI, 80, .inl g2_13)), (we, .inr (2, [.ref ch, .int 1, .ref sh, .ref wh, .int 0, .int 0, .int 0, .int 0, .int 0])), (ch, .inl (cI, 80, .inl g3_13)), (xq, .inr (6, [.ref n2, .ref fo2, .ref wa2, .ref we2])), (n2, .inl (cI, 36, .inl g_nums)), (fo2, .inr (2, [.ref cf2, .int 1, .ref sf2, .ref wf2, .int 0, .int 0, .int 0, .int 0, .int 0])), (cf2, .inl (cI, 80, .inl g1_3)), (wa2, .inr (2, [.ref cg2, .int 1, .ref sg2, .ref wg2, .int 0, .int 0, .int 0, .int 0, .int 0])), (cg2, .inl (cI, 80, .inl g2_3)), (we2, .inr (2, [.ref ch2, .int 1, .ref sh2, .ref wh2, .int 0, .int 0, .int 0, .int 0, .int 0])), (ch2, .inl (cI, 80, .inl g3_3)), (xp, .inr (5, [.ref xs, .ref ph, .int 0, .int 0, .ref pl])), (ph, .inl (cI, 96, .inl (fun _ => 1000))), (pl, .inl (cII, 4, .inr (.inr (.inr (.inr (fun i => if i < 4 then some (pr i) else none)))))), ((pr 0), .inl (cI, 96, .inl (fun _ => (-1))))]) F [0] [1, 2, 3, 4, 5, 6, 7, 8, 9, 10, 11, 12, 13, 14, 15, 16, 17, 18, 19, 20, 21, 22, 23, 24] [] rfl rfl (by decide) rfl (by decide) (by decide) rfl (fun sz => K_X4_forget l D xj xp xl jj jh jw jo jb  sz) (cwV 0 hts gX11_shop_X4_forget rfl rfl rfl (by decide +kernel) ⟨Nat.le_of_ble_eq_true rfl, Nat.le_of_ble_eq_true rfl⟩) rfl 0 rfl rfl (Nat.le_of_ble_eq_true rfl) ⟨Nat.le_of_ble_eq_true rfl, Nat.le_of_ble_eq_true rfl⟩ dX11_shop_45 (fun _ hw_22 => ?_)
  show gG p l e (gR 5 0 0 113) s m args below meth c D A 1 Q 0 0 [(xe, .inr (1, [.ref xs, .ref xl, .ref ef, .ref ev, .int 0, .ref eh, .int 0, .ref er, .int 0, .int 0])), (xr, .inr (7, [.ref xt, .ref xq, .int 0, .int 0, .int (-1), .int 0, .int 0])), (x0, .inr (10, [.ref xt, .ref xs, .ref xq, .ref xr, .ref xp, .ref xl, .ref xc, .ref xj, .ref xe, .ref xo, .ref pa, .int 0, .int 0, .int (-1)])), (xt, .inr (9, [.ref tb, .int 0, .int 0, .int 0, .int 0, .int 0])), (xs, .inr (6, [.ref n, .ref fo, .ref wa, .ref we])), (n, .inl (cI, 36, .inl g0_13)), (fo, .inr (2, [.ref cf, .int 1, .ref sf, .ref wf, .int 0, .int 0, .int 0, .int 0, .int 0])), (cf, .inl (cI, 80, .inl g1_13)), (wa, .inr (2, [.ref cg, .int 1, .ref sg, .ref wg, .int 0, .int 0, .int 0, .int 0, .int 0])), (cg, .inl (cI, 80, .inl g2_13)), (we, .inr (2, [.ref ch, .int 1, .ref sh, .ref wh, .int 0, .int 0, .int 0, .int 0, .int 0])), (ch, .inl (cI, 80, .inl g3_13)), (xq, .inr (6, [.ref n2, .ref fo2, .ref wa2, .ref we2])), (n2, .inl (cI, 36, .inl g_nums)), (fo2, .inr (2, [.ref cf2, .int 1, .ref sf2, .ref wf2, .int 0, .int 0, .int 0, .int 0, .int 0])), (cf2, .inl (cI, 80, .inl g1_3)), (wa2, .inr (2, [.ref cg2, .int 1, .ref sg2, .ref wg2, .int 0, .int 0, .int 0, .int 0, .int 0])), (cg2, .inl (cI, 80, .inl g2_3)), (we2, .inr (2, [.ref ch2, .int 1, .ref sh2, .ref wh2, .int 0, .int 0, .int 0, .int 0, .int 0])), (ch2, .inl (cI, 80, .inl g3_3)), (xp, .inr (5, [.ref xs, .ref ph, .int 0, .int 0, .ref pl])), (ph, .inl (cI, 96, .inl (fun _ => 1000))), (pl, .inl (cII, 4, .inr (.inr (.inr (.inr (fun i => if i < 4 then some (pr i) else none)))))), ((pr 0), .inl (cI, 96, .inl (fun _ => (-1)))), (xj, .inr (3, [.ref xp, .ref xl, .ref jj, .int 0, .ref jh, .ref jw, .ref jo, .ref jb, .int 0, .int 0, .int 0, .int 0]))] [(cI, .int), (cII, .array .int)] [(0, .ref x0)] 48 []
  refine g_aload_n F 0 dX11_shop_48 rfl rfl ?_
  refine g_get (C := RX11) (T := TX11) (N := 14) (v := .ref xe) F i_X11 2 rfl rfl 8 (by decide) w_6 rfl rfl dX11_shop_49 ?_
  refine g_callVv (k := 0) (n := 0) (b := xe) (As := []) (st := []) (wc := [(xe, .inr (1, [.ref xs, .ref xl, .ref ef, .ref ev, .int 0, .ref eh, .int 0, .ref er, .int 0, .int 0]))]) (wr := [(xr, .inr (7, [.ref xt, .ref xq, .int 0, .int 0, .int (-1), .int 0, .int 0])), (x0, .inr (10, [.ref xt, .ref xs, .ref xq, .ref xr, .ref xp, .ref xl, .ref xc, .ref xj, .ref xe, .ref xo, .ref pa, .int 0, .int 0, .int (-1)])), (xt, .inr (9, [.ref tb, .int 0, .int 0, .int 0, .int 0, .int 0])), (xs, .inr (6, [.ref n, .ref fo, .ref wa, .ref we])), (n, .inl (cI, 36, .inl g0_13)), (fo, .inr (2, [.ref cf, .int 1, .ref sf, .ref wf, .int 0, .int 0, .int 0, .int 0, .int 0])), (cf, .inl (cI, 80, .inl g1_13)), (wa, .inr (2, [.ref cg, .int 1, .ref sg, .ref wg, .int 0, .int 0, .int 0, .int 0, .int 0])), (cg, .inl (cI, 80, .inl g2_13)), (we, .inr (2, [.ref ch, .int 1, .ref sh, .ref wh, .int 0, .int 0, .int 0, .int 0, .int 0])), (ch, .inl (cI, 80, .inl g3_13)), (xq, .inr (6, [.ref n2, .ref fo2, .ref wa2, .ref we2])), (n2, .inl (cI, 36, .inl g_nums)), (fo2, .inr (2, [.ref cf2, .int 1, .ref sf2, .ref wf2, .int 0, .int 0, .int 0, .int 0, .int 0])), (cf2, .inl (cI, 80, .inl g1_3)), (wa2, .inr (2, [.ref cg2, .int 1, .ref sg2, .ref wg2, .int 0, .int 0, .int 0, .int 0, .int 0])), (cg2, .inl (cI, 80, .inl g2_3)), (we2, .inr (2, [.ref ch2, .int 1, .ref sh2, .ref wh2, .int 0, .int 0, .int 0, .int 0, .int 0])), (ch2, .inl (cI, 80, .inl g3_3)), (xp, .inr (5, [.ref xs, .ref ph, .int 0, .int 0, .ref pl])), (ph, .inl (cI, 96, .inl (fun _ => 1000))), (pl, .inl (cII, 4, .inr (.inr (.inr (.inr (fun i => if i < 4 then some (pr i) else none)))))), ((pr 0), .inl (cI, 96, .inl (fun _ => (-1)))), (xj, .inr (3, [.ref xp, .ref xl, .ref jj, .int 0, .ref jh, .ref jw, .ref jo, .ref jb, .int 0, .int 0, .int 0, .int 0]))]) F [0] [1, 2, 3, 4, 5, 6, 7, 8, 9, 10, 11, 12, 13, 14, 15, 16, 17, 18, 19, 20, 21, 22, 23, 24] [] rfl rfl (by decide) rfl (by decide) (by decide) rfl (fun sz => K_X2_forget l D xe xs xl ef ev eh er  sz) (cwV 0 hts gX11_shop_X2_forget rfl rfl rfl (by decide +kernel) ⟨Nat.le_of_ble_eq_true rfl, Nat.le_of_ble_eq_true rfl⟩) rfl 0 rfl rfl (Nat.le_of_ble_eq_true rfl) ⟨Nat.le_of_ble_eq_true rfl, Nat.le_of_ble_eq_true rfl⟩ dX11_shop_52 (fun _ hw_27 => ?_)
  show gG p l e (gR 5 0 0 113) s m args below meth c D A 1 Q 0 0 [(xr, .inr (7, [.ref xt, .ref xq, .int 0, .int 0, .int (-1), .int 0, .int 0])), (x0, .inr (10, [.ref xt, .ref xs, .ref xq, .ref xr, .ref xp, .ref xl, .ref xc, .ref xj, .ref xe, .ref xo, .ref pa, .int 0, .int 0, .int (-1)])), (xt, .inr (9, [.ref tb, .int 0, .int 0, .int 0, .int 0, .int 0])), (xs, .inr (6, [.ref n, .ref fo, .ref wa, .ref we])), (n, .inl (cI, 36, .inl g0_13)), (fo, .inr (2, [.ref cf, .int 1, .ref sf, .ref wf, .int 0, .int 0, .int 0, .int 0, .int 0])), (cf, .inl (cI, 80, .inl g1_13)), (wa, .inr (2, [.ref cg, .int 1, .ref sg, .ref wg, .int 0, .int 0, .int 0, .int 0, .int 0])), (cg, .inl (cI, 80, .inl g2_13)), (we, .inr (2, [.ref ch, .int 1, .ref sh, .ref wh, .int 0, .int 0, .int 0, .int 0, .int 0])), (ch, .inl (cI, 80, .inl g3_13)), (xq, .inr (6, [.ref n2, .ref fo2, .ref wa2, .ref we2])), (n2, .inl (cI, 36, .inl g_nums)), (fo2, .inr (2, [.ref cf2, .int 1, .ref sf2, .ref wf2, .int 0, .int 0, .int 0, .int 0, .int 0])), (cf2, .inl (cI, 80, .inl g1_3)), (wa2, .inr (2, [.ref cg2, .int 1, .ref sg2, .ref wg2, .int 0, .int 0, .int 0, .int 0, .int 0])), (cg2, .inl (cI, 80, .inl g2_3)), (we2, .inr (2, [.ref ch2, .int 1, .ref sh2, .ref wh2, .int 0, .int 0, .int 0, .int 0, .int 0])), (ch2, .inl (cI, 80, .inl g3_3)), (xp, .inr (5, [.ref xs, .ref ph, .int 0, .int 0, .ref pl])), (ph, .inl (cI, 96, .inl (fun _ => 1000))), (pl, .inl (cII, 4, .inr (.inr (.inr (.inr (fun i => if i < 4 then some (pr i) else none)))))), ((pr 0), .inl (cI, 96, .inl (fun _ => (-1)))), (xj, .inr (3, [.ref xp, .ref xl, .ref jj, .int 0, .ref jh, .ref jw, .ref jo, .ref jb, .int 0, .int 0, .int 0, .int 0])), (xe, .inr (1, [.ref xs, .ref xl, .ref ef, .ref ev, .int 0, .ref eh, .int 0, .ref er, .int 0, .int 0]))] [(cI, .int), (cII, .array .int)] [(0, .ref x0)] 55 []
  refine g_aload_n F 0 dX11_shop_55 rfl rfl ?_
  refine g_get (C := RX11) (T := TX11) (N := 14) (v := .ref xr) F i_X11 1 rfl rfl 3 (by decide) w_0 rfl rfl dX11_shop_56 ?_
  refine g_get (C := RX8) (T := TX8) (N := 7) (v := .int 0) F i_X8 0 rfl rfl 2 (by decide) w_7 rfl rfl dX11_shop_59 ?_
  exact g_iret F hA hQ hr () (rfl) [1] [0, 1] rfl (by decide) rfl rfl dX11_shop_62

theorem dX5_takes_0 : decode cX5_takes 0 = .ok (.aload_n 0, 1) := by decide +kernel
theorem dX5_takes_1 : decode cX5_takes 1 = .ok (.iload_n 1, 1) := by decide +kernel
theorem dX5_takes_2 : decode cX5_takes 2 = .ok (.putfield 33, 3) := by decide +kernel
theorem dX5_takes_5 : decode cX5_takes 5 = .ok (.aload_n 0, 1) := by decide +kernel
theorem dX5_takes_6 : decode cX5_takes 6 = .ok (.iload_n 2, 1) := by decide +kernel
theorem dX5_takes_7 : decode cX5_takes 7 = .ok (.putfield 37, 3) := by decide +kernel
theorem dX5_takes_10 : decode cX5_takes 10 = .ok (.aload_n 0, 1) := by decide +kernel
theorem dX5_takes_11 : decode cX5_takes 11 = .ok (.iload_n 3, 1) := by decide +kernel
theorem dX5_takes_12 : decode cX5_takes 12 = .ok (.putfield 40, 3) := by decide +kernel
theorem dX5_takes_15 : decode cX5_takes 15 = .ok (.aload_n 0, 1) := by decide +kernel
theorem dX5_takes_16 : decode cX5_takes 16 = .ok (.iload 4, 2) := by decide +kernel
theorem dX5_takes_18 : decode cX5_takes 18 = .ok (.putfield 43, 3) := by decide +kernel
theorem dX5_takes_21 : decode cX5_takes 21 = .ok (.aload_n 0, 1) := by decide +kernel
theorem dX5_takes_22 : decode cX5_takes 22 = .ok (.getfield 29, 3) := by decide +kernel
theorem dX5_takes_25 : decode cX5_takes 25 = .ok (.iload_n 1, 1) := by decide +kernel
theorem dX5_takes_26 : decode cX5_takes 26 = .ok (.invokevirtual 46, 3) := by decide +kernel
theorem dX5_takes_29 : decode cX5_takes 29 = .ok (.ifCond .eq 42, 3) := by decide +kernel
theorem dX5_takes_32 : decode cX5_takes 32 = .ok (.iload_n 2, 1) := by decide +kernel
theorem dX5_takes_33 : decode cX5_takes 33 = .ok (.iconst 1, 1) := by decide +kernel
theorem dX5_takes_34 : decode cX5_takes 34 = .ok (.if_icmp .lt 37, 3) := by decide +kernel
theorem dX5_takes_37 : decode cX5_takes 37 = .ok (.iload_n 2, 1) := by decide +kernel
theorem dX5_takes_38 : decode cX5_takes 38 = .ok (.bipush 9, 2) := by decide +kernel
theorem dX5_takes_40 : decode cX5_takes 40 = .ok (.if_icmp .gt 31, 3) := by decide +kernel
theorem dX5_takes_43 : decode cX5_takes 43 = .ok (.iload_n 3, 1) := by decide +kernel
theorem dX5_takes_44 : decode cX5_takes 44 = .ok (.iconst 1, 1) := by decide +kernel
theorem dX5_takes_45 : decode cX5_takes 45 = .ok (.if_icmp .lt 26, 3) := by decide +kernel
theorem dX5_takes_48 : decode cX5_takes 48 = .ok (.iload_n 3, 1) := by decide +kernel
theorem dX5_takes_49 : decode cX5_takes 49 = .ok (.bipush 20, 2) := by decide +kernel
theorem dX5_takes_51 : decode cX5_takes 51 = .ok (.if_icmp .gt 20, 3) := by decide +kernel
theorem dX5_takes_54 : decode cX5_takes 54 = .ok (.iload 4, 2) := by decide +kernel
theorem dX5_takes_56 : decode cX5_takes 56 = .ok (.iconst 1, 1) := by decide +kernel
theorem dX5_takes_57 : decode cX5_takes 57 = .ok (.if_icmp .lt 14, 3) := by decide +kernel
theorem dX5_takes_60 : decode cX5_takes 60 = .ok (.iload 4, 2) := by decide +kernel
theorem dX5_takes_62 : decode cX5_takes 62 = .ok (.bipush 12, 2) := by decide +kernel
theorem dX5_takes_64 : decode cX5_takes 64 = .ok (.if_icmp .gt 7, 3) := by decide +kernel
theorem dX5_takes_67 : decode cX5_takes 67 = .ok (.iconst 1, 1) := by decide +kernel
theorem dX5_takes_68 : decode cX5_takes 68 = .ok (.goto 4, 3) := by decide +kernel
theorem dX5_takes_71 : decode cX5_takes 71 = .ok (.iconst 0, 1) := by decide +kernel
theorem dX5_takes_72 : decode cX5_takes 72 = .ok (.ireturn, 1) := by decide +kernel
set_option maxRecDepth 20000 in
theorem ggX5_takes_X7_hasRing : GoodIn wsX5_takes wsX7_hasRing := goodIn_r _ [10, 11, 32, 33, 34, 35] rfl (by decide +kernel)
set_option maxRecDepth 20000 in
theorem gX5_takes_X7_hasRing : GoodIn wsX5_takes (wsV RX5 46 RX7 yX7_hasRing wsX7_hasRing) := goodIn_app (goodIn_of _ (by decide +kernel)) ggX5_takes_X7_hasRing
set_option maxHeartbeats 4000000 in
set_option maxRecDepth 100000 in
theorem K_X5_takes (l : Launch) (D : va_G) (xl : Nat) (xs : Nat) (la_t : Nat) (la_h : Nat) (la_u : Nat) (la_o : Nat) (la_x : Nat) (n : Nat) (fo : Nat) (wa : Nat) (we : Nat) (cI : ClassId) (l_ring : Int32) (l_speed : Int32) (l_feed : Int32) (l_turns : Int32) (l_teethSet : Int32) (l_teethMany : Int32) (l_wear : Int32) (l_x : Int32) (l_v : Int32) (l_wave : Int32) (l_time : Int32) (l_out : Int32) (l_farthest : Int32) (l_begun : Int32) (a : Int32) (b : Int32) (d : Int32) (h : Int32) (sz : Nat) : Ki l yX5_takes wsX5_takes 2 61 0 0 D [.ref xl, .int a, .int b, .int d, .int h] [(xl, .inr (4, [.ref xs, .int l_ring, .int l_speed, .int l_feed, .int l_turns, .ref la_t, .int l_teethSet, .int l_teethMany, .ref la_h, .ref la_u, .ref la_o, .ref la_x, .int l_wear, .int l_x, .int l_v, .int l_wave, .int l_time, .int l_out, .int l_farthest, .int l_begun])), (xs, .inr (6, [.ref n, .ref fo, .ref wa, .ref we])), (n, .inl (cI, 36, .inl g_nums))] [(cI, .int)] sz (fun (r : Int32) (_ : Unit) => r = (if 0 ≤ a ∧ a < 3 ∧ 1 ≤ b ∧ b ≤ 9 ∧ 1 ≤ d ∧ d ≤ 20 ∧ 1 ≤ h ∧ h ≤ 12 then 1 else 0)) (fun (_ : Unit) => [(xl, .inr (4, [.ref xs, .int a, .int b, .int d, .int h, .ref la_t, .int l_teethSet, .int l_teethMany, .ref la_h, .ref la_u, .ref la_o, .ref la_x, .int l_wear, .int l_x, .int l_v, .int l_wave, .int l_time, .int l_out, .int l_farthest, .int l_begun])), (xs, .inr (6, [.ref n, .ref fo, .ref wa, .ref we])), (n, .inl (cI, 36, .inl g_nums))]) (fun (_ : Unit) => [(cI, .int)]) := by
  unfold Ki
  refine g_ofW (cc := cX5_takes) (lv := [(0, .ref xl), (1, .int a), (2, .int b), (3, .int d), (4, .int h)]) (by decide) rfl (Nat.le_of_ble_eq_true rfl) rfl ?_
  intro p e s m args below meth c A Q hA hQ F hr hnm
  have hts := F.2.2.2.2.1
  have w_0 : (Cond.fieldLink RX5 33 "QuietCut$Lathe" "ring" "I").before args s = true := hts _ (List.mem_of_getElem? (i := 1) rfl)
  have i_X5 : ∀ w ∈ u_ws RX5 TX5 20, w ∈ wsX5_takes := fun _ h => List.mem_cons_of_mem _ (List.mem_append_left _ (List.mem_append_right _ h))
  have w_1 : (Cond.fieldLink RX5 37 "QuietCut$Lathe" "speed" "I").before args s = true := hts _ (List.mem_of_getElem? (i := 2) rfl)
  have w_2 : (Cond.fieldLink RX5 40 "QuietCut$Lathe" "feed" "I").before args s = true := hts _ (List.mem_of_getElem? (i := 3) rfl)
  have w_3 : (Cond.fieldLink RX5 43 "QuietCut$Lathe" "turns" "I").before args s = true := hts _ (List.mem_of_getElem? (i := 4) rfl)
  have w_4 : (Cond.fieldLink RX5 29 "QuietCut$Lathe" "shop" "LQuietCut$Shop;").before args s = true := hts _ (List.mem_of_getElem? (i := 5) rfl)
  refine g_aload_n F 0 dX5_takes_0 rfl rfl ?_
  refine g_iload_n F 1 dX5_takes_1 rfl rfl ?_
  refine g_put (C := RX5) (T := TX5) (N := 20) (ty := .int) (v := .int a) F i_X5 0 rfl rfl 1 (by decide) w_0 rfl tyX5 tyX5_ok nmX5 rfl (by decide +kernel) rfl rfl (Nat.le_of_ble_eq_true rfl) [(xl, .inr (4, [.ref xs, .int a, .int l_speed, .int l_feed, .int l_turns, .ref la_t, .int l_teethSet, .int l_teethMany, .ref la_h, .ref la_u, .ref la_o, .ref la_x, .int l_wear, .int l_x, .int l_v, .int l_wave, .int l_time, .int l_out, .int l_farthest, .int l_begun])), (xs, .inr (6, [.ref n, .ref fo, .ref wa, .ref we])), (n, .inl (cI, 36, .inl g_nums))] rfl dX5_takes_2 ?_
  refine g_aload_n F 0 dX5_takes_5 rfl rfl ?_
  refine g_iload_n F 2 dX5_takes_6 rfl rfl ?_
  refine g_put (C := RX5) (T := TX5) (N := 20) (ty := .int) (v := .int b) F i_X5 0 rfl rfl 2 (by decide) w_1 rfl tyX5 tyX5_ok nmX5 rfl (by decide +kernel) rfl rfl (Nat.le_of_ble_eq_true rfl) [(xl, .inr (4, [.ref xs, .int a, .int b, .int l_feed, .int l_turns, .ref la_t, .int l_teethSet, .int l_teethMany, .ref la_h, .ref la_u, .ref la_o, .ref la_x, .int l_wear, .int l_x, .int l_v, .int l_wave, .int l_time, .int l_out, .int l_farthest, .int l_begun])), (xs, .inr (6, [.ref n, .ref fo, .ref wa, .ref we])), (n, .inl (cI, 36, .inl g_nums))] rfl dX5_takes_7 ?_
  refine g_aload_n F 0 dX5_takes_10 rfl rfl ?_
  refine g_iload_n F 3 dX5_takes_11 rfl rfl ?_
  refine g_put (C := RX5) (T := TX5) (N := 20) (ty := .int) (v := .int d) F i_X5 0 rfl rfl 3 (by decide) w_2 rfl tyX5 tyX5_ok nmX5 rfl (by decide +kernel) rfl rfl (Nat.le_of_ble_eq_true rfl) [(xl, .inr (4, [.ref xs, .int a, .int b, .int d, .int l_turns, .ref la_t, .int l_teethSet, .int l_teethMany, .ref la_h, .ref la_u, .ref la_o, .ref la_x, .int l_wear, .int l_x, .int l_v, .int l_wave, .int l_time, .int l_out, .int l_farthest, .int l_begun])), (xs, .inr (6, [.ref n, .ref fo, .ref wa, .ref we])), (n, .inl (cI, 36, .inl g_nums))] rfl dX5_takes_12 ?_
  refine g_aload_n F 0 dX5_takes_15 rfl rfl ?_
  refine g_iload F 4 dX5_takes_16 rfl ?_
  refine g_put (C := RX5) (T := TX5) (N := 20) (ty := .int) (v := .int h) F i_X5 0 rfl rfl 4 (by decide) w_3 rfl tyX5 tyX5_ok nmX5 rfl (by decide +kernel) rfl rfl (Nat.le_of_ble_eq_true rfl) [(xl, .inr (4, [.ref xs, .int a, .int b, .int d, .int h, .ref la_t, .int l_teethSet, .int l_teethMany, .ref la_h, .ref la_u, .ref la_o, .ref la_x, .int l_wear, .int l_x, .int l_v, .int l_wave, .int l_time, .int l_out, .int l_farthest, .int l_begun])), (xs, .inr (6, [.ref n, .ref fo, .ref wa, .ref we])), (n, .inl (cI, 36, .inl g_nums))] rfl dX5_takes_18 ?_
  refine g_aload_n F 0 dX5_takes_21 rfl rfl ?_
  refine g_get (C := RX5) (T := TX5) (N := 20) (v := .ref xs) F i_X5 0 rfl rfl 0 (by decide) w_4 rfl rfl dX5_takes_22 ?_
  refine g_iload_n F 1 dX5_takes_25 rfl rfl ?_
  refine g_callVi (k := 0) (n := 0) (b := xs) (As := [.int a]) (st := []) (wc := [(xs, .inr (6, [.ref n, .ref fo, .ref wa, .ref we])), (n, .inl (cI, 36, .inl g_nums))]) (wr := [(xl, .inr (4, [.ref xs, .int a, .int b, .int d, .int h, .ref la_t, .int l_teethSet, .int l_teethMany, .ref la_h, .ref la_u, .ref la_o, .ref la_x, .int l_wear, .int l_x, .int l_v, .int l_wave, .int l_time, .int l_out, .int l_farthest, .int l_begun]))]) F [1, 2] [0] [0] rfl rfl (by decide) rfl (by decide) (by decide) rfl (fun sz => K_X7_hasRing l D xs n fo wa we cI a  sz) (cwV 1 hts gX5_takes_X7_hasRing rfl rfl rfl (by decide +kernel) ⟨Nat.le_of_ble_eq_true rfl, Nat.le_of_ble_eq_true rfl⟩) rfl 0 rfl rfl (Nat.le_of_ble_eq_true rfl) ⟨Nat.le_of_ble_eq_true rfl, Nat.le_of_ble_eq_true rfl⟩ dX5_takes_26 (fun r_1 _ hw_2 => ?_)
  have hw_2 : r_1 = (if 0 ≤ a ∧ a < 3 then 1 else 0) := hw_2
  have e_r_1 := hw_2
  show gG p l e (gR 2 0 0 61) s m args below meth c D A 5 Q 0 0 [(xl, .inr (4, [.ref xs, .int a, .int b, .int d, .int h, .ref la_t, .int l_teethSet, .int l_teethMany, .ref la_h, .ref la_u, .ref la_o, .ref la_x, .int l_wear, .int l_x, .int l_v, .int l_wave, .int l_time, .int l_out, .int l_farthest, .int l_begun])), (xs, .inr (6, [.ref n, .ref fo, .ref wa, .ref we])), (n, .inl (cI, 36, .inl g_nums))] [(cI, .int)] [(0, .ref xl), (1, .int a), (2, .int b), (3, .int d), (4, .int h)] 29 [.int r_1]
  refine g_fold (if 0 ≤ a ∧ a < 3 then 1 else 0) e_r_1 ?_
  refine g_if_eq F 71 dX5_takes_29 (by decide) (fun c_29 => ?_) (fun c_29 => ?_)
  · have c_29 := gb_0 c_29
    refine g_iconst F 0 dX5_takes_71 (by decide) ?_
    exact g_zret F hA hQ hr rfl () (gb_f (by (simp only [Int32.lt_iff_toInt_lt, Int32.le_iff_toInt_le, ← Int32.toInt_inj, Int32.reduceToInt] at c_29 ⊢; omega))) [0, 1, 2] [0] rfl (by decide) rfl rfl dX5_takes_72
  · have c_29 := gb_n0 c_29
    refine g_iload_n F 2 dX5_takes_32 rfl rfl ?_
    refine g_iconst F 1 dX5_takes_33 (by decide) ?_
    refine g_icmp_lt F 71 dX5_takes_34 (by decide) (fun c_34 => ?_) (fun c_34 => ?_)
    · refine g_iconst F 0 dX5_takes_71 (by decide) ?_
      exact g_zret F hA hQ hr rfl () (gb_f (by (simp only [Int32.lt_iff_toInt_lt, Int32.le_iff_toInt_le, ← Int32.toInt_inj, Int32.reduceToInt] at c_29 c_34 ⊢; omega))) [0, 1, 2] [0] rfl (by decide) rfl rfl dX5_takes_72
    · refine g_iload_n F 2 dX5_takes_37 rfl rfl ?_
      refine g_bipush F 9 dX5_takes_38 (by decide) ?_
      refine g_icmp_gt F 71 dX5_takes_40 (by decide) (fun c_40 => ?_) (fun c_40 => ?_)
      · refine g_iconst F 0 dX5_takes_71 (by decide) ?_
        exact g_zret F hA hQ hr rfl () (gb_f (by (simp only [Int32.lt_iff_toInt_lt, Int32.le_iff_toInt_le, ← Int32.toInt_inj, Int32.reduceToInt] at c_29 c_34 c_40 ⊢; omega))) [0, 1, 2] [0] rfl (by decide) rfl rfl dX5_takes_72
      · refine g_iload_n F 3 dX5_takes_43 rfl rfl ?_
        refine g_iconst F 1 dX5_takes_44 (by decide) ?_
        refine g_icmp_lt F 71 dX5_takes_45 (by decide) (fun c_45 => ?_) (fun c_45 => ?_)
        · refine g_iconst F 0 dX5_takes_71 (by decide) ?_
          exact g_zret F hA hQ hr rfl () (gb_f (by (simp only [Int32.lt_iff_toInt_lt, Int32.le_iff_toInt_le, ← Int32.toInt_inj, Int32.reduceToInt] at c_29 c_34 c_40 c_45 ⊢; omega))) [0, 1, 2] [0] rfl (by decide) rfl rfl dX5_takes_72
        · refine g_iload_n F 3 dX5_takes_48 rfl rfl ?_
          refine g_bipush F 20 dX5_takes_49 (by decide) ?_
          refine g_icmp_gt F 71 dX5_takes_51 (by decide) (fun c_51 => ?_) (fun c_51 => ?_)
          · refine g_iconst F 0 dX5_takes_71 (by decide) ?_
            exact g_zret F hA hQ hr rfl () (gb_f (by (simp only [Int32.lt_iff_toInt_lt, Int32.le_iff_toInt_le, ← Int32.toInt_inj, Int32.reduceToInt] at c_29 c_34 c_40 c_45 c_51 ⊢; omega))) [0, 1, 2] [0] rfl (by decide) rfl rfl dX5_takes_72
          · refine g_iload F 4 dX5_takes_54 rfl ?_
            refine g_iconst F 1 dX5_takes_56 (by decide) ?_
            refine g_icmp_lt F 71 dX5_takes_57 (by decide) (fun c_57 => ?_) (fun c_57 => ?_)
            · refine g_iconst F 0 dX5_takes_71 (by decide) ?_
              exact g_zret F hA hQ hr rfl () (gb_f (by (simp only [Int32.lt_iff_toInt_lt, Int32.le_iff_toInt_le, ← Int32.toInt_inj, Int32.reduceToInt] at c_29 c_34 c_40 c_45 c_51 c_57 ⊢; omega))) [0, 1, 2] [0] rfl (by decide) rfl rfl dX5_takes_72
            · refine g_iload F 4 dX5_takes_60 rfl ?_
              refine g_bipush F 12 dX5_takes_62 (by decide) ?_
              refine g_icmp_gt F 71 dX5_takes_64 (by decide) (fun c_64 => ?_) (fun c_64 => ?_)
              · refine g_iconst F 0 dX5_takes_71 (by decide) ?_
                exact g_zret F hA hQ hr rfl () (gb_f (by (simp only [Int32.lt_iff_toInt_lt, Int32.le_iff_toInt_le, ← Int32.toInt_inj, Int32.reduceToInt] at c_29 c_34 c_40 c_45 c_51 c_57 c_64 ⊢; omega))) [0, 1, 2] [0] rfl (by decide) rfl rfl dX5_takes_72
              · refine g_iconst F 1 dX5_takes_67 (by decide) ?_
                refine g_goto F 72 dX5_takes_68 (by decide) ?_
                exact g_zret F hA hQ hr rfl () (gb_t (by (simp only [Int32.lt_iff_toInt_lt, Int32.le_iff_toInt_le, ← Int32.toInt_inj, Int32.reduceToInt] at c_29 c_34 c_40 c_45 c_51 c_57 c_64 ⊢; omega))) [0, 1, 2] [0] rfl (by decide) rfl rfl dX5_takes_72

theorem dX4_add_0 : decode cX4_add 0 = .ok (.aload_n 0, 1) := by decide +kernel
theorem dX4_add_1 : decode cX4_add 1 = .ok (.getfield 37, 3) := by decide +kernel
theorem dX4_add_4 : decode cX4_add 4 = .ok (.iconst 5, 1) := by decide +kernel
theorem dX4_add_5 : decode cX4_add 5 = .ok (.if_icmp .lt 6, 3) := by decide +kernel
theorem dX4_add_8 : decode cX4_add 8 = .ok (.bipush (-3), 2) := by decide +kernel
theorem dX4_add_10 : decode cX4_add 10 = .ok (.ireturn, 1) := by decide +kernel
theorem dX4_add_11 : decode cX4_add 11 = .ok (.aload_n 0, 1) := by decide +kernel
theorem dX4_add_12 : decode cX4_add 12 = .ok (.getfield 13, 3) := by decide +kernel
theorem dX4_add_15 : decode cX4_add 15 = .ok (.iconst 0, 1) := by decide +kernel
theorem dX4_add_16 : decode cX4_add 16 = .ok (.aaload, 1) := by decide +kernel
theorem dX4_add_17 : decode cX4_add 17 = .ok (.aload_n 0, 1) := by decide +kernel
theorem dX4_add_18 : decode cX4_add 18 = .ok (.getfield 37, 3) := by decide +kernel
theorem dX4_add_21 : decode cX4_add 21 = .ok (.iload_n 1, 1) := by decide +kernel
theorem dX4_add_22 : decode cX4_add 22 = .ok (.iastore, 1) := by decide +kernel
theorem dX4_add_23 : decode cX4_add 23 = .ok (.aload_n 0, 1) := by decide +kernel
theorem dX4_add_24 : decode cX4_add 24 = .ok (.getfield 13, 3) := by decide +kernel
theorem dX4_add_27 : decode cX4_add 27 = .ok (.iconst 1, 1) := by decide +kernel
theorem dX4_add_28 : decode cX4_add 28 = .ok (.aaload, 1) := by decide +kernel
theorem dX4_add_29 : decode cX4_add 29 = .ok (.aload_n 0, 1) := by decide +kernel
theorem dX4_add_30 : decode cX4_add 30 = .ok (.getfield 37, 3) := by decide +kernel
theorem dX4_add_33 : decode cX4_add 33 = .ok (.iload_n 2, 1) := by decide +kernel
theorem dX4_add_34 : decode cX4_add 34 = .ok (.iastore, 1) := by decide +kernel
theorem dX4_add_35 : decode cX4_add 35 = .ok (.aload_n 0, 1) := by decide +kernel
theorem dX4_add_36 : decode cX4_add 36 = .ok (.getfield 13, 3) := by decide +kernel
theorem dX4_add_39 : decode cX4_add 39 = .ok (.iconst 2, 1) := by decide +kernel
theorem dX4_add_40 : decode cX4_add 40 = .ok (.aaload, 1) := by decide +kernel
theorem dX4_add_41 : decode cX4_add 41 = .ok (.aload_n 0, 1) := by decide +kernel
theorem dX4_add_42 : decode cX4_add 42 = .ok (.getfield 37, 3) := by decide +kernel
theorem dX4_add_45 : decode cX4_add 45 = .ok (.iload_n 3, 1) := by decide +kernel
theorem dX4_add_46 : decode cX4_add 46 = .ok (.iastore, 1) := by decide +kernel
theorem dX4_add_47 : decode cX4_add 47 = .ok (.aload_n 0, 1) := by decide +kernel
theorem dX4_add_48 : decode cX4_add 48 = .ok (.getfield 13, 3) := by decide +kernel
theorem dX4_add_51 : decode cX4_add 51 = .ok (.iconst 3, 1) := by decide +kernel
theorem dX4_add_52 : decode cX4_add 52 = .ok (.aaload, 1) := by decide +kernel
theorem dX4_add_53 : decode cX4_add 53 = .ok (.aload_n 0, 1) := by decide +kernel
theorem dX4_add_54 : decode cX4_add 54 = .ok (.getfield 37, 3) := by decide +kernel
theorem dX4_add_57 : decode cX4_add 57 = .ok (.iload 4, 2) := by decide +kernel
theorem dX4_add_59 : decode cX4_add 59 = .ok (.iastore, 1) := by decide +kernel
theorem dX4_add_60 : decode cX4_add 60 = .ok (.aload_n 0, 1) := by decide +kernel
theorem dX4_add_61 : decode cX4_add 61 = .ok (.iconst 0, 1) := by decide +kernel
theorem dX4_add_62 : decode cX4_add 62 = .ok (.putfield 41, 3) := by decide +kernel
theorem dX4_add_65 : decode cX4_add 65 = .ok (.aload_n 0, 1) := by decide +kernel
theorem dX4_add_66 : decode cX4_add 66 = .ok (.dup, 1) := by decide +kernel
theorem dX4_add_67 : decode cX4_add 67 = .ok (.getfield 37, 3) := by decide +kernel
theorem dX4_add_70 : decode cX4_add 70 = .ok (.iconst 1, 1) := by decide +kernel
theorem dX4_add_71 : decode cX4_add 71 = .ok (.iadd, 1) := by decide +kernel
theorem dX4_add_72 : decode cX4_add 72 = .ok (.putfield 37, 3) := by decide +kernel
theorem dX4_add_75 : decode cX4_add 75 = .ok (.aload_n 0, 1) := by decide +kernel
theorem dX4_add_76 : decode cX4_add 76 = .ok (.getfield 37, 3) := by decide +kernel
theorem dX4_add_79 : decode cX4_add 79 = .ok (.iconst 1, 1) := by decide +kernel
theorem dX4_add_80 : decode cX4_add 80 = .ok (.isub, 1) := by decide +kernel
theorem dX4_add_81 : decode cX4_add 81 = .ok (.ireturn, 1) := by decide +kernel
set_option maxHeartbeats 4000000 in
set_option maxRecDepth 100000 in
theorem K_X4_add (l : Launch) (D : va_G) (xj : Nat) (xp : Nat) (xl : Nat) (jj : Nat) (jh : Nat) (jw : Nat) (jo : Nat) (jb : Nat) (cII : ClassId) (jr : Nat → Nat) (cI : ClassId) (a : Int32) (b : Int32) (d : Int32) (h : Int32) (sz : Nat) : Ki l yX4_add wsX4_add 1 40 0 0 D [.ref xj, .int a, .int b, .int d, .int h] [(xj, .inr (3, [.ref xp, .ref xl, .ref jj, .int 0, .ref jh, .ref jw, .ref jo, .ref jb, .int 0, .int 0, .int 0, .int 0])), (jj, .inl (cII, 4, .inr (.inr (.inr (.inr (fun i => if i < 4 then some (jr i) else none)))))), ((jr 0), .inl (cI, 5, .inl (fun _ => 0))), ((jr 1), .inl (cI, 5, .inl (fun _ => 0))), ((jr 2), .inl (cI, 5, .inl (fun _ => 0))), ((jr 3), .inl (cI, 5, .inl (fun _ => 0)))] [(cII, .array .int), (cI, .int)] sz (fun (r : Int32) (u : (Nat → Int32) × (Nat → Int32) × (Nat → Int32) × (Nat → Int32) × Int32 × Int32) => r = 0) (fun (u : (Nat → Int32) × (Nat → Int32) × (Nat → Int32) × (Nat → Int32) × Int32 × Int32) => [(xj, .inr (3, [.ref xp, .ref xl, .ref jj, .int u.2.2.2.2.1, .ref jh, .ref jw, .ref jo, .ref jb, .int u.2.2.2.2.2, .int 0, .int 0, .int 0])), (jj, .inl (cII, 4, .inr (.inr (.inr (.inr (fun i => if i < 4 then some (jr i) else none)))))), ((jr 0), .inl (cI, 5, .inl u.1)), ((jr 1), .inl (cI, 5, .inl u.2.1)), ((jr 2), .inl (cI, 5, .inl u.2.2.1)), ((jr 3), .inl (cI, 5, .inl u.2.2.2.1))]) (fun (_ : (Nat → Int32) × (Nat → Int32) × (Nat → Int32) × (Nat → Int32) × Int32 × Int32) => [(cII, .array .int), (cI, .int)]) := by
  unfold Ki
  refine g_ofW (cc := cX4_add) (lv := [(0, .ref xj), (1, .int a), (2, .int b), (3, .int d), (4, .int h)]) (by decide) rfl (Nat.le_of_ble_eq_true rfl) rfl ?_
  intro p e s m args below meth c A Q hA hQ F hr hnm
  have hts := F.2.2.2.2.1
  have w_0 : (Cond.fieldLink RX4 37 "QuietCut$Jobs" "many" "I").before args s = true := hts _ (List.mem_of_getElem? (i := 1) rfl)
  have i_X4 : ∀ w ∈ u_ws RX4 TX4 12, w ∈ wsX4_add := fun _ h => List.mem_cons_of_mem _ (List.mem_append_right _ h)
  have w_1 : (Cond.fieldLink RX4 13 "QuietCut$Jobs" "jobs" "[[I").before args s = true := hts _ (List.mem_of_getElem? (i := 2) rfl)
  have w_2 : (Cond.fieldLink RX4 41 "QuietCut$Jobs" "bestMany" "I").before args s = true := hts _ (List.mem_of_getElem? (i := 3) rfl)
  refine g_aload_n F 0 dX4_add_0 rfl rfl ?_
  refine g_get (C := RX4) (T := TX4) (N := 12) (v := .int 0) F i_X4 0 rfl rfl 3 (by decide) w_0 rfl rfl dX4_add_1 ?_
  refine g_iconst F 5 dX4_add_4 (by decide) ?_
  refine g_icmp_lt F 11 dX4_add_5 (by decide) (fun c_5 => ?_) (fun h9 => absurd (by decide) h9) 
  refine g_aload_n F 0 dX4_add_11 rfl rfl ?_
  refine g_get (C := RX4) (T := TX4) (N := 12) (v := .ref jj) F i_X4 0 rfl rfl 2 (by decide) w_1 rfl rfl dX4_add_12 ?_
  refine g_iconst F 0 dX4_add_15 (by decide) ?_
  refine g_aald (b := (jr 0)) F 1 0 rfl rfl (by unfold vp_in; decide) (by rfl) dX4_add_16 ?_
  refine g_aload_n F 0 dX4_add_17 rfl rfl ?_
  refine g_get (C := RX4) (T := TX4) (N := 12) (v := .int 0) F i_X4 0 rfl rfl 3 (by decide) w_0 rfl rfl dX4_add_18 ?_
  refine g_iload_n F 1 dX4_add_21 rfl rfl ?_
  refine g_iast F 2 1 rfl rfl (by unfold vp_in; decide) [(xj, .inr (3, [.ref xp, .ref xl, .ref jj, .int 0, .ref jh, .ref jw, .ref jo, .ref jb, .int 0, .int 0, .int 0, .int 0])), (jj, .inl (cII, 4, .inr (.inr (.inr (.inr (fun i => if i < 4 then some (jr i) else none)))))), ((jr 0), .inl (cI, 5, .inl (upd (fun _ => 0) 0 a))), ((jr 1), .inl (cI, 5, .inl (fun _ => 0))), ((jr 2), .inl (cI, 5, .inl (fun _ => 0))), ((jr 3), .inl (cI, 5, .inl (fun _ => 0)))] (rfl) dX4_add_22 ?_
  refine g_aload_n F 0 dX4_add_23 rfl rfl ?_
  refine g_get (C := RX4) (T := TX4) (N := 12) (v := .ref jj) F i_X4 0 rfl rfl 2 (by decide) w_1 rfl rfl dX4_add_24 ?_
  refine g_iconst F 1 dX4_add_27 (by decide) ?_
  refine g_aald (b := (jr 1)) F 1 0 rfl rfl (by unfold vp_in; decide) (by rfl) dX4_add_28 ?_
  refine g_aload_n F 0 dX4_add_29 rfl rfl ?_
  refine g_get (C := RX4) (T := TX4) (N := 12) (v := .int 0) F i_X4 0 rfl rfl 3 (by decide) w_0 rfl rfl dX4_add_30 ?_
  refine g_iload_n F 2 dX4_add_33 rfl rfl ?_
  refine g_iast F 3 1 rfl rfl (by unfold vp_in; decide) [(xj, .inr (3, [.ref xp, .ref xl, .ref jj, .int 0, .ref jh, .ref jw, .ref jo, .ref jb, .int 0, .int 0, .int 0, .int 0])), (jj, .inl (cII, 4, .inr (.inr (.inr (.inr (fun i => if i < 4 then some (jr i) else none)))))), ((jr 0), .inl (cI, 5, .inl (upd (fun _ => 0) 0 a))), ((jr 1), .inl (cI, 5, .inl (upd (fun _ => 0) 0 b))), ((jr 2), .inl (cI, 5, .inl (fun _ => 0))), ((jr 3), .inl (cI, 5, .inl (fun _ => 0)))] (rfl) dX4_add_34 ?_
  refine g_aload_n F 0 dX4_add_35 rfl rfl ?_
  refine g_get (C := RX4) (T := TX4) (N := 12) (v := .ref jj) F i_X4 0 rfl rfl 2 (by decide) w_1 rfl rfl dX4_add_36 ?_
  refine g_iconst F 2 dX4_add_39 (by decide) ?_
  refine g_aald (b := (jr 2)) F 1 0 rfl rfl (by unfold vp_in; decide) (by rfl) dX4_add_40 ?_
  refine g_aload_n F 0 dX4_add_41 rfl rfl ?_
  refine g_get (C := RX4) (T := TX4) (N := 12) (v := .int 0) F i_X4 0 rfl rfl 3 (by decide) w_0 rfl rfl dX4_add_42 ?_
  refine g_iload_n F 3 dX4_add_45 rfl rfl ?_
  refine g_iast F 4 1 rfl rfl (by unfold vp_in; decide) [(xj, .inr (3, [.ref xp, .ref xl, .ref jj, .int 0, .ref jh, .ref jw, .ref jo, .ref jb, .int 0, .int 0, .int 0, .int 0])), (jj, .inl (cII, 4, .inr (.inr (.inr (.inr (fun i => if i < 4 then some (jr i) else none)))))), ((jr 0), .inl (cI, 5, .inl (upd (fun _ => 0) 0 a))), ((jr 1), .inl (cI, 5, .inl (upd (fun _ => 0) 0 b))), ((jr 2), .inl (cI, 5, .inl (upd (fun _ => 0) 0 d))), ((jr 3), .inl (cI, 5, .inl (fun _ => 0)))] (rfl) dX4_add_46 ?_
  refine g_aload_n F 0 dX4_add_47 rfl rfl ?_
  refine g_get (C := RX4) (T := TX4) (N := 12) (v := .ref jj) F i_X4 0 rfl rfl 2 (by decide) w_1 rfl rfl dX4_add_48 ?_
  refine g_iconst F 3 dX4_add_51 (by decide) ?_
  refine g_aald (b := (jr 3)) F 1 0 rfl rfl (by unfold vp_in; decide) (by rfl) dX4_add_52 ?_
  refine g_aload_n F 0 dX4_add_53 rfl rfl ?_
  refine g_get (C := RX4) (T := TX4) (N := 12) (v := .int 0) F i_X4 0 rfl rfl 3 (by decide) w_0 rfl rfl dX4_add_54 ?_
  refine g_iload F 4 dX4_add_57 rfl ?_
  refine g_iast F 5 1 rfl rfl (by unfold vp_in; decide) [(xj, .inr (3, [.ref xp, .ref xl, .ref jj, .int 0, .ref jh, .ref jw, .ref jo, .ref jb, .int 0, .int 0, .int 0, .int 0])), (jj, .inl (cII, 4, .inr (.inr (.inr (.inr (fun i => if i < 4 then some (jr i) else none)))))), ((jr 0), .inl (cI, 5, .inl (upd (fun _ => 0) 0 a))), ((jr 1), .inl (cI, 5, .inl (upd (fun _ => 0) 0 b))), ((jr 2), .inl (cI, 5, .inl (upd (fun _ => 0) 0 d))), ((jr 3), .inl (cI, 5, .inl (upd (fun _ => 0) 0 h)))] (rfl) dX4_add_59 ?_
  refine g_aload_n F 0 dX4_add_60 rfl rfl ?_
  refine g_iconst F 0 dX4_add_61 (by decide) ?_
  refine g_put (C := RX4) (T := TX4) (N := 12) (ty := .int) (v := .int 0) F i_X4 0 rfl rfl 8 (by decide) w_2 rfl tyX4 tyX4_ok nmX4 rfl (by decide +kernel) rfl rfl (Nat.le_of_ble_eq_true rfl) [(xj, .inr (3, [.ref xp, .ref xl, .ref jj, .int 0, .ref jh, .ref jw, .ref jo, .ref jb, .int 0, .int 0, .int 0, .int 0])), (jj, .inl (cII, 4, .inr (.inr (.inr (.inr (fun i => if i < 4 then some (jr i) else none)))))), ((jr 0), .inl (cI, 5, .inl (upd (fun _ => 0) 0 a))), ((jr 1), .inl (cI, 5, .inl (upd (fun _ => 0) 0 b))), ((jr 2), .inl (cI, 5, .inl (upd (fun _ => 0) 0 d))), ((jr 3), .inl (cI, 5, .inl (upd (fun _ => 0) 0 h)))] rfl dX4_add_62 ?_
  refine g_aload_n F 0 dX4_add_65 rfl rfl ?_
  refine g_dup F dX4_add_66 rfl ?_
  refine g_get (C := RX4) (T := TX4) (N := 12) (v := .int 0) F i_X4 0 rfl rfl 3 (by decide) w_0 rfl rfl dX4_add_67 ?_
  refine g_iconst F 1 dX4_add_70 (by decide) ?_
  refine g_iadd F dX4_add_71 ?_
  refine g_fold 1 (by decide) ?_
  refine g_put (C := RX4) (T := TX4) (N := 12) (ty := .int) (v := .int 1) F i_X4 0 rfl rfl 3 (by decide) w_0 rfl tyX4 tyX4_ok nmX4 rfl (by decide +kernel) rfl rfl (Nat.le_of_ble_eq_true rfl) [(xj, .inr (3, [.ref xp, .ref xl, .ref jj, .int 1, .ref jh, .ref jw, .ref jo, .ref jb, .int 0, .int 0, .int 0, .int 0])), (jj, .inl (cII, 4, .inr (.inr (.inr (.inr (fun i => if i < 4 then some (jr i) else none)))))), ((jr 0), .inl (cI, 5, .inl (upd (fun _ => 0) 0 a))), ((jr 1), .inl (cI, 5, .inl (upd (fun _ => 0) 0 b))), ((jr 2), .inl (cI, 5, .inl (upd (fun _ => 0) 0 d))), ((jr 3), .inl (cI, 5, .inl (upd (fun _ => 0) 0 h)))] rfl dX4_add_72 ?_
  refine g_aload_n F 0 dX4_add_75 rfl rfl ?_
  refine g_get (C := RX4) (T := TX4) (N := 12) (v := .int 1) F i_X4 0 rfl rfl 3 (by decide) w_0 rfl rfl dX4_add_76 ?_
  refine g_iconst F 1 dX4_add_79 (by decide) ?_
  refine g_isub F dX4_add_80 ?_
  refine g_fold 0 (by decide) ?_
  exact g_iret F hA hQ hr ((upd (fun _ => 0) 0 a), (upd (fun _ => 0) 0 b), (upd (fun _ => 0) 0 d), (upd (fun _ => 0) 0 h), 1, 0) (rfl) [0, 1, 2, 3, 4, 5] [0, 1] rfl (by decide) rfl rfl dX4_add_81

theorem dX11_job_0 : decode cX11_job 0 = .ok (.aload_n 0, 1) := by decide +kernel
theorem dX11_job_1 : decode cX11_job 1 = .ok (.getfield 47, 3) := by decide +kernel
theorem dX11_job_4 : decode cX11_job 4 = .ok (.iload_n 1, 1) := by decide +kernel
theorem dX11_job_5 : decode cX11_job 5 = .ok (.iload_n 2, 1) := by decide +kernel
theorem dX11_job_6 : decode cX11_job 6 = .ok (.iload_n 3, 1) := by decide +kernel
theorem dX11_job_7 : decode cX11_job 7 = .ok (.iload 4, 2) := by decide +kernel
theorem dX11_job_9 : decode cX11_job 9 = .ok (.invokevirtual 164, 3) := by decide +kernel
theorem dX11_job_12 : decode cX11_job 12 = .ok (.ifCond .eq 18, 3) := by decide +kernel
theorem dX11_job_15 : decode cX11_job 15 = .ok (.aload_n 0, 1) := by decide +kernel
theorem dX11_job_16 : decode cX11_job 16 = .ok (.getfield 65, 3) := by decide +kernel
theorem dX11_job_19 : decode cX11_job 19 = .ok (.iload_n 1, 1) := by decide +kernel
theorem dX11_job_20 : decode cX11_job 20 = .ok (.iload_n 2, 1) := by decide +kernel
theorem dX11_job_21 : decode cX11_job 21 = .ok (.iload_n 3, 1) := by decide +kernel
theorem dX11_job_22 : decode cX11_job 22 = .ok (.iload 4, 2) := by decide +kernel
theorem dX11_job_24 : decode cX11_job 24 = .ok (.invokevirtual 238, 3) := by decide +kernel
theorem dX11_job_27 : decode cX11_job 27 = .ok (.goto 5, 3) := by decide +kernel
theorem dX11_job_30 : decode cX11_job 30 = .ok (.bipush (-2), 2) := by decide +kernel
theorem dX11_job_32 : decode cX11_job 32 = .ok (.ireturn, 1) := by decide +kernel
set_option maxRecDepth 20000 in
theorem ggX11_job_X4_add : GoodIn wsX11_job wsX4_add := goodIn_r _ [23, 24, 25, 26, 65, 66, 67, 68, 69, 70, 71, 72, 73, 74, 75, 76] rfl (by decide +kernel)
set_option maxRecDepth 20000 in
theorem gX11_job_X4_add : GoodIn wsX11_job (wsV RX11 238 RX4 yX4_add wsX4_add) := goodIn_app (goodIn_of _ (by decide +kernel)) ggX11_job_X4_add
set_option maxRecDepth 20000 in
theorem ggX11_job_X5_takes : GoodIn wsX11_job wsX5_takes := goodIn_r _ [7, 8, 9, 10, 11, 12, 13, 14, 15, 16, 17, 18, 41, 42, 43, 44, 45, 46, 47, 48, 49, 50, 51, 52, 53, 54, 55, 56, 57, 58, 59, 60, 61, 62, 63, 64] rfl (by decide +kernel)
set_option maxRecDepth 20000 in
theorem gX11_job_X5_takes : GoodIn wsX11_job (wsV RX11 164 RX5 yX5_takes wsX5_takes) := goodIn_app (goodIn_of _ (by decide +kernel)) ggX11_job_X5_takes
set_option maxHeartbeats 4000000 in
set_option maxRecDepth 100000 in
theorem K_X11_job (l : Launch) (D : va_G) (x0 : Nat) (xt : Nat) (xs : Nat) (xq : Nat) (xr : Nat) (xp : Nat) (xl : Nat) (xc : Nat) (xj : Nat) (xe : Nat) (xo : Nat) (pa : Nat) (la_t : Nat) (la_h : Nat) (la_u : Nat) (la_o : Nat) (la_x : Nat) (n : Nat) (fo : Nat) (wa : Nat) (we : Nat) (cI : ClassId) (jj : Nat) (jh : Nat) (jw : Nat) (jo : Nat) (jb : Nat) (cII : ClassId) (jr : Nat → Nat) (a : Int32) (b : Int32) (d : Int32) (h : Int32) (sz : Nat) : Ki l yX11_job wsX11_job 3 85 0 0 D [.ref x0, .int a, .int b, .int d, .int h] [(x0, .inr (10, [.ref xt, .ref xs, .ref xq, .ref xr, .ref xp, .ref xl, .ref xc, .ref xj, .ref xe, .ref xo, .ref pa, .int 0, .int 0, .int (-1)])), (xl, .inr (4, [.ref xs, .int 0, .int 0, .int 0, .int 0, .ref la_t, .int 0, .int 0, .ref la_h, .ref la_u, .ref la_o, .ref la_x, .int 0, .int 0, .int 0, .int 0, .int 0, .int 0, .int 0, .int 0])), (xs, .inr (6, [.ref n, .ref fo, .ref wa, .ref we])), (n, .inl (cI, 36, .inl g_nums)), (xj, .inr (3, [.ref xp, .ref xl, .ref jj, .int 0, .ref jh, .ref jw, .ref jo, .ref jb, .int 0, .int 0, .int 0, .int 0])), (jj, .inl (cII, 4, .inr (.inr (.inr (.inr (fun i => if i < 4 then some (jr i) else none)))))), ((jr 0), .inl (cI, 5, .inl (fun _ => 0))), ((jr 1), .inl (cI, 5, .inl (fun _ => 0))), ((jr 2), .inl (cI, 5, .inl (fun _ => 0))), ((jr 3), .inl (cI, 5, .inl (fun _ => 0)))] [(cI, .int), (cII, .array .int)] sz (fun (r : Int32) (_ : Unit) => r = (if 0 ≤ a ∧ a < 3 ∧ 1 ≤ b ∧ b ≤ 9 ∧ 1 ≤ d ∧ d ≤ 20 ∧ 1 ≤ h ∧ h ≤ 12 then 0 else (-2))) (fun (_ : Unit) => [(x0, .inr (10, [.ref xt, .ref xs, .ref xq, .ref xr, .ref xp, .ref xl, .ref xc, .ref xj, .ref xe, .ref xo, .ref pa, .int 0, .int 0, .int (-1)]))]) (fun (_ : Unit) => [(cI, .int), (cII, .array .int)]) := by
  unfold Ki
  refine g_ofW (cc := cX11_job) (lv := [(0, .ref x0), (1, .int a), (2, .int b), (3, .int d), (4, .int h)]) (by decide) rfl (Nat.le_of_ble_eq_true rfl) rfl ?_
  intro p e s m args below meth c A Q hA hQ F hr hnm
  have hts := F.2.2.2.2.1
  have w_0 : (Cond.fieldLink RX11 47 "QuietCut" "lathe" "LQuietCut$Lathe;").before args s = true := hts _ (List.mem_of_getElem? (i := 1) rfl)
  have i_X11 : ∀ w ∈ u_ws RX11 TX11 14, w ∈ wsX11_job := fun _ h => List.mem_cons_of_mem _ (List.mem_append_left _ (List.mem_append_left _ (List.mem_append_left _ (List.mem_append_right _ h))))
  have w_1 : (Cond.fieldLink RX11 65 "QuietCut" "jobs" "LQuietCut$Jobs;").before args s = true := hts _ (List.mem_of_getElem? (i := 2) rfl)
  refine g_aload_n F 0 dX11_job_0 rfl rfl ?_
  refine g_get (C := RX11) (T := TX11) (N := 14) (v := .ref xl) F i_X11 0 rfl rfl 5 (by decide) w_0 rfl rfl dX11_job_1 ?_
  refine g_iload_n F 1 dX11_job_4 rfl rfl ?_
  refine g_iload_n F 2 dX11_job_5 rfl rfl ?_
  refine g_iload_n F 3 dX11_job_6 rfl rfl ?_
  refine g_iload F 4 dX11_job_7 rfl ?_
  refine g_callVi (k := 0) (n := 0) (b := xl) (As := [.int a, .int b, .int d, .int h]) (st := []) (wc := [(xl, .inr (4, [.ref xs, .int 0, .int 0, .int 0, .int 0, .ref la_t, .int 0, .int 0, .ref la_h, .ref la_u, .ref la_o, .ref la_x, .int 0, .int 0, .int 0, .int 0, .int 0, .int 0, .int 0, .int 0])), (xs, .inr (6, [.ref n, .ref fo, .ref wa, .ref we])), (n, .inl (cI, 36, .inl g_nums))]) (wr := [(x0, .inr (10, [.ref xt, .ref xs, .ref xq, .ref xr, .ref xp, .ref xl, .ref xc, .ref xj, .ref xe, .ref xo, .ref pa, .int 0, .int 0, .int (-1)])), (xj, .inr (3, [.ref xp, .ref xl, .ref jj, .int 0, .ref jh, .ref jw, .ref jo, .ref jb, .int 0, .int 0, .int 0, .int 0])), (jj, .inl (cII, 4, .inr (.inr (.inr (.inr (fun i => if i < 4 then some (jr i) else none)))))), ((jr 0), .inl (cI, 5, .inl (fun _ => 0))), ((jr 1), .inl (cI, 5, .inl (fun _ => 0))), ((jr 2), .inl (cI, 5, .inl (fun _ => 0))), ((jr 3), .inl (cI, 5, .inl (fun _ => 0)))]) F [1, 2, 3] [0, 4, 5, 6, 7, 8, 9] [0] rfl rfl (by decide) rfl (by decide) (by decide) rfl (fun sz => K_X5_takes l D xl xs la_t la_h la_u la_o la_x n fo wa we cI 0 0 0 0 0 0 0 0 0 0 0 0 0 0 a b d h  sz) (cwV 4 hts gX11_job_X5_takes rfl rfl rfl (by decide +kernel) ⟨Nat.le_of_ble_eq_true rfl, Nat.le_of_ble_eq_true rfl⟩) rfl 0 rfl rfl (Nat.le_of_ble_eq_true rfl) ⟨Nat.le_of_ble_eq_true rfl, Nat.le_of_ble_eq_true rfl⟩ dX11_job_9 (fun r_1 _ hw_2 => ?_)
  have hw_2 : r_1 = (if 0 ≤ a ∧ a < 3 ∧ 1 ≤ b ∧ b ≤ 9 ∧ 1 ≤ d ∧ d ≤ 20 ∧ 1 ≤ h ∧ h ≤ 12 then 1 else 0) := hw_2
  have e_r_1 := hw_2
  show gG p l e (gR 3 0 0 85) s m args below meth c D A 5 Q 0 0 [(x0, .inr (10, [.ref xt, .ref xs, .ref xq, .ref xr, .ref xp, .ref xl, .ref xc, .ref xj, .ref xe, .ref xo, .ref pa, .int 0, .int 0, .int (-1)])), (xj, .inr (3, [.ref xp, .ref xl, .ref jj, .int 0, .ref jh, .ref jw, .ref jo, .ref jb, .int 0, .int 0, .int 0, .int 0])), (jj, .inl (cII, 4, .inr (.inr (.inr (.inr (fun i => if i < 4 then some (jr i) else none)))))), ((jr 0), .inl (cI, 5, .inl (fun _ => 0))), ((jr 1), .inl (cI, 5, .inl (fun _ => 0))), ((jr 2), .inl (cI, 5, .inl (fun _ => 0))), ((jr 3), .inl (cI, 5, .inl (fun _ => 0))), (xl, .inr (4, [.ref xs, .int a, .int b, .int d, .int h, .ref la_t, .int 0, .int 0, .ref la_h, .ref la_u, .ref la_o, .ref la_x, .int 0, .int 0, .int 0, .int 0, .int 0, .int 0, .int 0, .int 0])), (xs, .inr (6, [.ref n, .ref fo, .ref wa, .ref we])), (n, .inl (cI, 36, .inl g_nums))] [(cI, .int), (cII, .array .int)] [(0, .ref x0), (1, .int a), (2, .int b), (3, .int d), (4, .int h)] 12 [.int r_1]
  refine g_fold (if 0 ≤ a ∧ a < 3 ∧ 1 ≤ b ∧ b ≤ 9 ∧ 1 ≤ d ∧ d ≤ 20 ∧ 1 ≤ h ∧ h ≤ 12 then 1 else 0) e_r_1 ?_
  refine g_if_eq F 30 dX11_job_12 (by decide) (fun c_12 => ?_) (fun c_12 => ?_)
  · have c_12 := gb_0 c_12
    refine g_bipush F (-2) dX11_job_30 (by decide) ?_
    exact g_iret F hA hQ hr () (by first | exact (gi_e (by (simp only [Int32.lt_iff_toInt_lt, Int32.le_iff_toInt_le, ← Int32.toInt_inj, Int32.reduceToInt] at c_12 ⊢; omega)) rfl)) [0] [0, 1] rfl (by decide) rfl rfl dX11_job_32
  · have c_12 := gb_n0 c_12
    refine g_aload_n F 0 dX11_job_15 rfl rfl ?_
    refine g_get (C := RX11) (T := TX11) (N := 14) (v := .ref xj) F i_X11 0 rfl rfl 7 (by decide) w_1 rfl rfl dX11_job_16 ?_
    refine g_iload_n F 1 dX11_job_19 rfl rfl ?_
    refine g_iload_n F 2 dX11_job_20 rfl rfl ?_
    refine g_iload_n F 3 dX11_job_21 rfl rfl ?_
    refine g_iload F 4 dX11_job_22 rfl ?_
    refine g_callVi (k := 0) (n := 0) (b := xj) (As := [.int a, .int b, .int d, .int h]) (st := []) (wc := [(xj, .inr (3, [.ref xp, .ref xl, .ref jj, .int 0, .ref jh, .ref jw, .ref jo, .ref jb, .int 0, .int 0, .int 0, .int 0])), (jj, .inl (cII, 4, .inr (.inr (.inr (.inr (fun i => if i < 4 then some (jr i) else none)))))), ((jr 0), .inl (cI, 5, .inl (fun _ => 0))), ((jr 1), .inl (cI, 5, .inl (fun _ => 0))), ((jr 2), .inl (cI, 5, .inl (fun _ => 0))), ((jr 3), .inl (cI, 5, .inl (fun _ => 0)))]) (wr := [(x0, .inr (10, [.ref xt, .ref xs, .ref xq, .ref xr, .ref xp, .ref xl, .ref xc, .ref xj, .ref xe, .ref xo, .ref pa, .int 0, .int 0, .int (-1)])), (xl, .inr (4, [.ref xs, .int a, .int b, .int d, .int h, .ref la_t, .int 0, .int 0, .ref la_h, .ref la_u, .ref la_o, .ref la_x, .int 0, .int 0, .int 0, .int 0, .int 0, .int 0, .int 0, .int 0])), (xs, .inr (6, [.ref n, .ref fo, .ref wa, .ref we])), (n, .inl (cI, 36, .inl g_nums))]) F [1, 2, 3, 4, 5, 6] [0, 7, 8, 9] [1, 0] rfl rfl (by decide) rfl (by decide) (by decide) rfl (fun sz => K_X4_add l D xj xp xl jj jh jw jo jb cII jr cI a b d h  sz) (cwV 4 hts gX11_job_X4_add rfl rfl rfl (by decide +kernel) ⟨Nat.le_of_ble_eq_true rfl, Nat.le_of_ble_eq_true rfl⟩) rfl 0 rfl rfl (Nat.le_of_ble_eq_true rfl) ⟨Nat.le_of_ble_eq_true rfl, Nat.le_of_ble_eq_true rfl⟩ dX11_job_24 (fun r_6 u_5 hw_7 => ?_)
    obtain ⟨g0_8, g1_8, g2_8, g3_8, z1_8, z2_8⟩ := u_5
    have hw_7 : r_6 = 0 := hw_7
    have e_r_6 := hw_7
    show gG p l e (gR 3 0 0 85) s m args below meth c D A 5 Q 0 0 [(x0, .inr (10, [.ref xt, .ref xs, .ref xq, .ref xr, .ref xp, .ref xl, .ref xc, .ref xj, .ref xe, .ref xo, .ref pa, .int 0, .int 0, .int (-1)])), (xl, .inr (4, [.ref xs, .int a, .int b, .int d, .int h, .ref la_t, .int 0, .int 0, .ref la_h, .ref la_u, .ref la_o, .ref la_x, .int 0, .int 0, .int 0, .int 0, .int 0, .int 0, .int 0, .int 0])), (xs, .inr (6, [.ref n, .ref fo, .ref wa, .ref we])), (n, .inl (cI, 36, .inl g_nums)), (xj, .inr (3, [.ref xp, .ref xl, .ref jj, .int z1_8, .ref jh, .ref jw, .ref jo, .ref jb, .int z2_8, .int 0, .int 0, .int 0])), (jj, .inl (cII, 4, .inr (.inr (.inr (.inr (fun i => if i < 4 then some (jr i) else none)))))), ((jr 0), .inl (cI, 5, .inl g0_8)), ((jr 1), .inl (cI, 5, .inl g1_8)), ((jr 2), .inl (cI, 5, .inl g2_8)), ((jr 3), .inl (cI, 5, .inl g3_8))] [(cI, .int), (cII, .array .int)] [(0, .ref x0), (1, .int a), (2, .int b), (3, .int d), (4, .int h)] 27 [.int r_6]
    refine g_fold 0 e_r_6 ?_
    refine g_goto F 32 dX11_job_27 (by decide) ?_
    exact g_iret F hA hQ hr () (by first | exact (gi_p (by (simp only [Int32.lt_iff_toInt_lt, Int32.le_iff_toInt_le, ← Int32.toInt_inj, Int32.reduceToInt] at c_12 ⊢; omega)) rfl)) [0] [0, 1] rfl (by decide) rfl rfl dX11_job_32

theorem dX5_mayHold_0 : decode cX5_mayHold 0 = .ok (.iload_n 0, 1) := by decide +kernel
theorem dX5_mayHold_1 : decode cX5_mayHold 1 = .ok (.ifCond .lt 25, 3) := by decide +kernel
theorem dX5_mayHold_4 : decode cX5_mayHold 4 = .ok (.iload_n 0, 1) := by decide +kernel
theorem dX5_mayHold_5 : decode cX5_mayHold 5 = .ok (.sipush 300, 3) := by decide +kernel
theorem dX5_mayHold_8 : decode cX5_mayHold 8 = .ok (.if_icmp .gt 18, 3) := by decide +kernel
theorem dX5_mayHold_11 : decode cX5_mayHold 11 = .ok (.iload_n 1, 1) := by decide +kernel
theorem dX5_mayHold_12 : decode cX5_mayHold 12 = .ok (.ifCond .lt 14, 3) := by decide +kernel
theorem dX5_mayHold_15 : decode cX5_mayHold 15 = .ok (.iload_n 1, 1) := by decide +kernel
theorem dX5_mayHold_16 : decode cX5_mayHold 16 = .ok (.sipush 300, 3) := by decide +kernel
theorem dX5_mayHold_19 : decode cX5_mayHold 19 = .ok (.if_icmp .gt 7, 3) := by decide +kernel
theorem dX5_mayHold_22 : decode cX5_mayHold 22 = .ok (.iconst 1, 1) := by decide +kernel
theorem dX5_mayHold_23 : decode cX5_mayHold 23 = .ok (.goto 4, 3) := by decide +kernel
theorem dX5_mayHold_26 : decode cX5_mayHold 26 = .ok (.iconst 0, 1) := by decide +kernel
theorem dX5_mayHold_27 : decode cX5_mayHold 27 = .ok (.ireturn, 1) := by decide +kernel
set_option maxHeartbeats 4000000 in
set_option maxRecDepth 100000 in
theorem K_X5_mayHold (l : Launch) (D : va_G) (a : Int32) (b : Int32) (sz : Nat) : Ki l yX5_mayHold wsX5_mayHold 1 40 0 0 D [.int a, .int b] [] [] sz (fun (r : Int32) (_ : Unit) => r = (if 0 ≤ a ∧ a ≤ 300 ∧ 0 ≤ b ∧ b ≤ 300 then 1 else 0)) (fun (_ : Unit) => []) (fun (_ : Unit) => []) := by
  unfold Ki
  refine g_ofW (cc := cX5_mayHold) (lv := [(0, .int a), (1, .int b)]) (by decide) rfl (Nat.le_of_ble_eq_true rfl) rfl ?_
  intro p e s m args below meth c A Q hA hQ F hr hnm
  have hts := F.2.2.2.2.1
  refine g_iload_n F 0 dX5_mayHold_0 rfl rfl ?_
  refine g_if_lt F 26 dX5_mayHold_1 (by decide) (fun c_1 => ?_) (fun c_1 => ?_)
  · refine g_iconst F 0 dX5_mayHold_26 (by decide) ?_
    exact g_zret F hA hQ hr rfl () (gb_f (by (simp only [Int32.lt_iff_toInt_lt, Int32.le_iff_toInt_le, ← Int32.toInt_inj, Int32.reduceToInt] at c_1 ⊢; omega))) [] [] rfl (by decide) rfl rfl dX5_mayHold_27
  · refine g_iload_n F 0 dX5_mayHold_4 rfl rfl ?_
    refine g_sipush F 300 dX5_mayHold_5 (by decide) ?_
    refine g_icmp_gt F 26 dX5_mayHold_8 (by decide) (fun c_8 => ?_) (fun c_8 => ?_)
    · refine g_iconst F 0 dX5_mayHold_26 (by decide) ?_
      exact g_zret F hA hQ hr rfl () (gb_f (by (simp only [Int32.lt_iff_toInt_lt, Int32.le_iff_toInt_le, ← Int32.toInt_inj, Int32.reduceToInt] at c_1 c_8 ⊢; omega))) [] [] rfl (by decide) rfl rfl dX5_mayHold_27
    · refine g_iload_n F 1 dX5_mayHold_11 rfl rfl ?_
      refine g_if_lt F 26 dX5_mayHold_12 (by decide) (fun c_12 => ?_) (fun c_12 => ?_)
      · refine g_iconst F 0 dX5_mayHold_26 (by decide) ?_
        exact g_zret F hA hQ hr rfl () (gb_f (by (simp only [Int32.lt_iff_toInt_lt, Int32.le_iff_toInt_le, ← Int32.toInt_inj, Int32.reduceToInt] at c_1 c_8 c_12 ⊢; omega))) [] [] rfl (by decide) rfl rfl dX5_mayHold_27
      · refine g_iload_n F 1 dX5_mayHold_15 rfl rfl ?_
        refine g_sipush F 300 dX5_mayHold_16 (by decide) ?_
        refine g_icmp_gt F 26 dX5_mayHold_19 (by decide) (fun c_19 => ?_) (fun c_19 => ?_)
        · refine g_iconst F 0 dX5_mayHold_26 (by decide) ?_
          exact g_zret F hA hQ hr rfl () (gb_f (by (simp only [Int32.lt_iff_toInt_lt, Int32.le_iff_toInt_le, ← Int32.toInt_inj, Int32.reduceToInt] at c_1 c_8 c_12 c_19 ⊢; omega))) [] [] rfl (by decide) rfl rfl dX5_mayHold_27
        · refine g_iconst F 1 dX5_mayHold_22 (by decide) ?_
          refine g_goto F 27 dX5_mayHold_23 (by decide) ?_
          exact g_zret F hA hQ hr rfl () (gb_t (by (simp only [Int32.lt_iff_toInt_lt, Int32.le_iff_toInt_le, ← Int32.toInt_inj, Int32.reduceToInt] at c_1 c_8 c_12 c_19 ⊢; omega))) [] [] rfl (by decide) rfl rfl dX5_mayHold_27

theorem dX4_leastWaves_0 : decode cX4_leastWaves 0 = .ok (.aload_n 0, 1) := by decide +kernel
theorem dX4_leastWaves_1 : decode cX4_leastWaves 1 = .ok (.getfield 37, 3) := by decide +kernel
theorem dX4_leastWaves_4 : decode cX4_leastWaves 4 = .ok (.ifCond .ne 6, 3) := by decide +kernel
theorem dX4_leastWaves_7 : decode cX4_leastWaves 7 = .ok (.bipush (-4), 2) := by decide +kernel
theorem dX4_leastWaves_9 : decode cX4_leastWaves 9 = .ok (.ireturn, 1) := by decide +kernel
theorem dX4_leastWaves_10 : decode cX4_leastWaves 10 = .ok (.aload_n 0, 1) := by decide +kernel
theorem dX4_leastWaves_11 : decode cX4_leastWaves 11 = .ok (.iload_n 1, 1) := by decide +kernel
theorem dX4_leastWaves_12 : decode cX4_leastWaves 12 = .ok (.putfield 44, 3) := by decide +kernel
theorem dX4_leastWaves_15 : decode cX4_leastWaves 15 = .ok (.aload_n 0, 1) := by decide +kernel
theorem dX4_leastWaves_16 : decode cX4_leastWaves 16 = .ok (.iload_n 2, 1) := by decide +kernel
theorem dX4_leastWaves_17 : decode cX4_leastWaves 17 = .ok (.putfield 47, 3) := by decide +kernel
theorem dX4_leastWaves_20 : decode cX4_leastWaves 20 = .ok (.aload_n 0, 1) := by decide +kernel
theorem dX4_leastWaves_21 : decode cX4_leastWaves 21 = .ok (.iconst (-1), 1) := by decide +kernel
theorem dX4_leastWaves_22 : decode cX4_leastWaves 22 = .ok (.putfield 50, 3) := by decide +kernel
theorem dX4_leastWaves_25 : decode cX4_leastWaves 25 = .ok (.aload_n 0, 1) := by decide +kernel
theorem dX4_leastWaves_26 : decode cX4_leastWaves 26 = .ok (.invokevirtual 53, 3) := by decide +kernel
theorem dX4_leastWaves_29 : decode cX4_leastWaves 29 = .ok (.aload_n 0, 1) := by decide +kernel
theorem dX4_leastWaves_30 : decode cX4_leastWaves 30 = .ok (.iconst 0, 1) := by decide +kernel
theorem dX4_leastWaves_31 : decode cX4_leastWaves 31 = .ok (.iconst 0, 1) := by decide +kernel
theorem dX4_leastWaves_32 : decode cX4_leastWaves 32 = .ok (.iconst 0, 1) := by decide +kernel
theorem dX4_leastWaves_33 : decode cX4_leastWaves 33 = .ok (.invokevirtual 56, 3) := by decide +kernel
theorem dX4_leastWaves_36 : decode cX4_leastWaves 36 = .ok (.aload_n 0, 1) := by decide +kernel
theorem dX4_leastWaves_37 : decode cX4_leastWaves 37 = .ok (.getfield 50, 3) := by decide +kernel
theorem dX4_leastWaves_40 : decode cX4_leastWaves 40 = .ok (.ireturn, 1) := by decide +kernel
set_option maxHeartbeats 4000000 in
set_option maxRecDepth 100000 in
theorem K_X4_leastWaves (l : Launch) (D : va_G) (xj : Nat) (xp : Nat) (xl : Nat) (jj : Nat) (jh : Nat) (jw : Nat) (jo : Nat) (jb : Nat) (a : Int32) (b : Int32) (sz : Nat) : Ki l yX4_leastWaves wsX4_leastWaves 1 40 0 0 D [.ref xj, .int a, .int b] [(xj, .inr (3, [.ref xp, .ref xl, .ref jj, .int 0, .ref jh, .ref jw, .ref jo, .ref jb, .int 0, .int 0, .int 0, .int 0]))] [] sz (fun (r : Int32) (_ : Unit) => r = (-4)) (fun (_ : Unit) => [(xj, .inr (3, [.ref xp, .ref xl, .ref jj, .int 0, .ref jh, .ref jw, .ref jo, .ref jb, .int 0, .int 0, .int 0, .int 0]))]) (fun (_ : Unit) => []) := by
  unfold Ki
  refine g_ofW (cc := cX4_leastWaves) (lv := [(0, .ref xj), (1, .int a), (2, .int b)]) (by decide) rfl (Nat.le_of_ble_eq_true rfl) rfl ?_
  intro p e s m args below meth c A Q hA hQ F hr hnm
  have hts := F.2.2.2.2.1
  have w_0 : (Cond.fieldLink RX4 37 "QuietCut$Jobs" "many" "I").before args s = true := hts _ (List.mem_of_getElem? (i := 1) rfl)
  have i_X4 : ∀ w ∈ u_ws RX4 TX4 12, w ∈ wsX4_leastWaves := fun _ h => List.mem_cons_of_mem _ (List.mem_append_left _ (List.mem_append_left _ (List.mem_append_left _ (List.mem_append_left _ (List.mem_append_right _ h)))))
  refine g_aload_n F 0 dX4_leastWaves_0 rfl rfl ?_
  refine g_get (C := RX4) (T := TX4) (N := 12) (v := .int 0) F i_X4 0 rfl rfl 3 (by decide) w_0 rfl rfl dX4_leastWaves_1 ?_
  refine g_if_ne F 10 dX4_leastWaves_4 (by decide) (fun h9 => absurd (by decide) h9) (fun c_4 => ?_)
  refine g_bipush F (-4) dX4_leastWaves_7 (by decide) ?_
  exact g_iret F hA hQ hr () (rfl) [0] [] rfl (by decide) rfl rfl dX4_leastWaves_9

theorem dX11_order_0 : decode cX11_order 0 = .ok (.iload_n 1, 1) := by decide +kernel
theorem dX11_order_1 : decode cX11_order 1 = .ok (.iload_n 2, 1) := by decide +kernel
theorem dX11_order_2 : decode cX11_order 2 = .ok (.invokestatic 168, 3) := by decide +kernel
theorem dX11_order_5 : decode cX11_order 5 = .ok (.ifCond .eq 15, 3) := by decide +kernel
theorem dX11_order_8 : decode cX11_order 8 = .ok (.aload_n 0, 1) := by decide +kernel
theorem dX11_order_9 : decode cX11_order 9 = .ok (.getfield 65, 3) := by decide +kernel
theorem dX11_order_12 : decode cX11_order 12 = .ok (.iload_n 1, 1) := by decide +kernel
theorem dX11_order_13 : decode cX11_order 13 = .ok (.iload_n 2, 1) := by decide +kernel
theorem dX11_order_14 : decode cX11_order 14 = .ok (.invokevirtual 240, 3) := by decide +kernel
theorem dX11_order_17 : decode cX11_order 17 = .ok (.goto 5, 3) := by decide +kernel
theorem dX11_order_20 : decode cX11_order 20 = .ok (.bipush (-2), 2) := by decide +kernel
theorem dX11_order_22 : decode cX11_order 22 = .ok (.ireturn, 1) := by decide +kernel
set_option maxRecDepth 20000 in
theorem ggX11_order_X4_leastWaves : GoodIn wsX11_order wsX4_leastWaves := goodIn_r _ [10, 11, 12, 13, 14, 15, 16, 17, 9, 18, 19, 20, 21, 22, 23, 24, 25, 26, 27, 28, 29, 30, 31, 32, 33, 34, 35, 36, 37, 38, 39, 40, 41, 42, 43, 44, 45, 4, 46, 47, 48, 49, 50, 51, 52, 53, 54, 55, 56, 57, 58, 59, 60, 61, 62, 63, 64, 65, 66, 67, 68, 69, 70, 71, 72, 73, 74, 75, 76, 77, 78, 79, 80, 81, 82, 83, 84, 85, 86, 87, 88, 89, 90, 91, 92, 93, 94, 95, 96, 97, 98, 99, 100, 101, 102, 103, 104, 105, 106, 107, 108, 109, 110, 111, 112, 113, 114, 115, 116, 117, 118, 119, 120, 121, 122, 123, 124, 125, 126, 127, 128, 129, 130, 131, 132, 133, 134, 135, 136, 137, 138, 139, 140, 141, 142, 143, 144, 145, 146, 147, 148, 149, 150, 151, 152, 153, 154, 169, 170, 171, 172, 173, 174, 175, 176, 177, 178, 179, 180, 181, 182, 183, 184, 185, 186, 187, 188, 189, 190, 191, 192, 193, 194, 195, 196, 197, 198, 199, 200, 201, 202, 203, 204, 205, 206, 207, 208, 209, 210, 211, 212, 213, 214, 215, 216, 217, 218] rfl (by decide +kernel)
set_option maxRecDepth 20000 in
theorem gX11_order_X4_leastWaves : GoodIn wsX11_order (wsV RX11 240 RX4 yX4_leastWaves wsX4_leastWaves) := goodIn_app (goodIn_of _ (by decide +kernel)) ggX11_order_X4_leastWaves
set_option maxRecDepth 20000 in
theorem ggX11_order_X5_mayHold : GoodIn wsX11_order wsX5_mayHold := goodIn_r _ [5] rfl (by decide +kernel)
set_option maxRecDepth 20000 in
theorem gX11_order_X5_mayHold : GoodIn wsX11_order (va_wsS RX11 168 yX5_mayHold wsX5_mayHold) := goodIn_app (goodIn_of _ (by decide +kernel)) ggX11_order_X5_mayHold
set_option maxHeartbeats 4000000 in
set_option maxRecDepth 100000 in
theorem K_X11_order (l : Launch) (D : va_G) (x0 : Nat) (xt : Nat) (xs : Nat) (xq : Nat) (xr : Nat) (xp : Nat) (xl : Nat) (xc : Nat) (xj : Nat) (xe : Nat) (xo : Nat) (pa : Nat) (jj : Nat) (jh : Nat) (jw : Nat) (jo : Nat) (jb : Nat) (a : Int32) (b : Int32) (sz : Nat) : Ki l yX11_order wsX11_order 2 62 0 0 D [.ref x0, .int a, .int b] [(x0, .inr (10, [.ref xt, .ref xs, .ref xq, .ref xr, .ref xp, .ref xl, .ref xc, .ref xj, .ref xe, .ref xo, .ref pa, .int 0, .int 0, .int (-1)])), (xj, .inr (3, [.ref xp, .ref xl, .ref jj, .int 0, .ref jh, .ref jw, .ref jo, .ref jb, .int 0, .int 0, .int 0, .int 0]))] [] sz (fun (r : Int32) (_ : Unit) => r = (if 0 ≤ a ∧ a ≤ 300 ∧ 0 ≤ b ∧ b ≤ 300 then (-4) else (-2))) (fun (_ : Unit) => [(x0, .inr (10, [.ref xt, .ref xs, .ref xq, .ref xr, .ref xp, .ref xl, .ref xc, .ref xj, .ref xe, .ref xo, .ref pa, .int 0, .int 0, .int (-1)])), (xj, .inr (3, [.ref xp, .ref xl, .ref jj, .int 0, .ref jh, .ref jw, .ref jo, .ref jb, .int 0, .int 0, .int 0, .int 0]))]) (fun (_ : Unit) => []) := by
  unfold Ki
  refine g_ofW (cc := cX11_order) (lv := [(0, .ref x0), (1, .int a), (2, .int b)]) (by decide) rfl (Nat.le_of_ble_eq_true rfl) rfl ?_
  intro p e s m args below meth c A Q hA hQ F hr hnm
  have hts := F.2.2.2.2.1
  have w_0 : (Cond.fieldLink RX11 65 "QuietCut" "jobs" "LQuietCut$Jobs;").before args s = true := hts _ (List.mem_of_getElem? (i := 1) rfl)
  have i_X11 : ∀ w ∈ u_ws RX11 TX11 14, w ∈ wsX11_order := fun _ h => List.mem_cons_of_mem _ (List.mem_append_left _ (List.mem_append_left _ (List.mem_append_left _ (List.mem_append_left _ (List.mem_append_left _ (List.mem_append_right _ h))))))
  refine g_iload_n F 1 dX11_order_0 rfl rfl ?_
  refine g_iload_n F 2 dX11_order_1 rfl rfl ?_
  refine g_callSi (k := 0) (n := 0) (As := [.int a, .int b]) (st := []) (wc := []) (wr := [(x0, .inr (10, [.ref xt, .ref xs, .ref xq, .ref xr, .ref xp, .ref xl, .ref xc, .ref xj, .ref xe, .ref xo, .ref pa, .int 0, .int 0, .int (-1)])), (xj, .inr (3, [.ref xp, .ref xl, .ref jj, .int 0, .ref jh, .ref jw, .ref jo, .ref jb, .int 0, .int 0, .int 0, .int 0]))]) F [] [0, 1] [] rfl rfl (by decide) rfl (by decide) (by decide) rfl (fun sz => K_X5_mayHold l D a b  sz) (va_cwS 2 hts gX11_order_X5_mayHold rfl rfl rfl (by decide +kernel) ⟨Nat.le_of_ble_eq_true rfl, Nat.le_of_ble_eq_true rfl⟩) rfl (Nat.le_of_ble_eq_true rfl) ⟨Nat.le_of_ble_eq_true rfl, Nat.le_of_ble_eq_true rfl⟩ dX11_order_2 (fun r_1 _ hw_2 => ?_)
  have hw_2 : r_1 = (if 0 ≤ a ∧ a ≤ 300 ∧ 0 ≤ b ∧ b ≤ 300 then 1 else 0) := hw_2
  have e_r_1 := hw_2
  show gG p l e (gR 2 0 0 62) s m args below meth c D A 3 Q 0 0 [(x0, .inr (10, [.ref xt, .ref xs, .ref xq, .ref xr, .ref xp, .ref xl, .ref xc, .ref xj, .ref xe, .ref xo, .ref pa, .int 0, .int 0, .int (-1)])), (xj, .inr (3, [.ref xp, .ref xl, .ref jj, .int 0, .ref jh, .ref jw, .ref jo, .ref jb, .int 0, .int 0, .int 0, .int 0]))] [] [(0, .ref x0), (1, .int a), (2, .int b)] 5 [.int r_1]
  refine g_fold (if 0 ≤ a ∧ a ≤ 300 ∧ 0 ≤ b ∧ b ≤ 300 then 1 else 0) e_r_1 ?_
  refine g_if_eq F 20 dX11_order_5 (by decide) (fun c_5 => ?_) (fun c_5 => ?_)
  · have c_5 := gb_0 c_5
    refine g_bipush F (-2) dX11_order_20 (by decide) ?_
    exact g_iret F hA hQ hr () (by first | exact (gi_e (by (simp only [Int32.lt_iff_toInt_lt, Int32.le_iff_toInt_le, ← Int32.toInt_inj, Int32.reduceToInt] at c_5 ⊢; omega)) rfl)) [0, 1] [] rfl (by decide) rfl rfl dX11_order_22
  · have c_5 := gb_n0 c_5
    refine g_aload_n F 0 dX11_order_8 rfl rfl ?_
    refine g_get (C := RX11) (T := TX11) (N := 14) (v := .ref xj) F i_X11 0 rfl rfl 7 (by decide) w_0 rfl rfl dX11_order_9 ?_
    refine g_iload_n F 1 dX11_order_12 rfl rfl ?_
    refine g_iload_n F 2 dX11_order_13 rfl rfl ?_
    refine g_callVi (k := 0) (n := 0) (b := xj) (As := [.int a, .int b]) (st := []) (wc := [(xj, .inr (3, [.ref xp, .ref xl, .ref jj, .int 0, .ref jh, .ref jw, .ref jo, .ref jb, .int 0, .int 0, .int 0, .int 0]))]) (wr := [(x0, .inr (10, [.ref xt, .ref xs, .ref xq, .ref xr, .ref xp, .ref xl, .ref xc, .ref xj, .ref xe, .ref xo, .ref pa, .int 0, .int 0, .int (-1)]))]) F [1] [0] [] rfl rfl (by decide) rfl (by decide) (by decide) rfl (fun sz => K_X4_leastWaves l D xj xp xl jj jh jw jo jb a b  sz) (cwV 2 hts gX11_order_X4_leastWaves rfl rfl rfl (by decide +kernel) ⟨Nat.le_of_ble_eq_true rfl, Nat.le_of_ble_eq_true rfl⟩) rfl 0 rfl rfl (Nat.le_of_ble_eq_true rfl) ⟨Nat.le_of_ble_eq_true rfl, Nat.le_of_ble_eq_true rfl⟩ dX11_order_14 (fun r_6 _ hw_7 => ?_)
    have hw_7 : r_6 = (-4) := hw_7
    have e_r_6 := hw_7
    show gG p l e (gR 2 0 0 62) s m args below meth c D A 3 Q 0 0 [(x0, .inr (10, [.ref xt, .ref xs, .ref xq, .ref xr, .ref xp, .ref xl, .ref xc, .ref xj, .ref xe, .ref xo, .ref pa, .int 0, .int 0, .int (-1)])), (xj, .inr (3, [.ref xp, .ref xl, .ref jj, .int 0, .ref jh, .ref jw, .ref jo, .ref jb, .int 0, .int 0, .int 0, .int 0]))] [] [(0, .ref x0), (1, .int a), (2, .int b)] 17 [.int r_6]
    refine g_fold (-4) e_r_6 ?_
    refine g_goto F 22 dX11_order_17 (by decide) ?_
    exact g_iret F hA hQ hr () (by first | exact (gi_p (by (simp only [Int32.lt_iff_toInt_lt, Int32.le_iff_toInt_le, ← Int32.toInt_inj, Int32.reduceToInt] at c_5 ⊢; omega)) rfl)) [0, 1] [] rfl (by decide) rfl rfl dX11_order_22
