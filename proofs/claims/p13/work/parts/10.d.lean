def RE1 : String := "java/lang/Exception"
def RE2 : String := "java/lang/Throwable"
abbrev cE1_init : ByteArray := prog_18_method_5_code
def yE1_init : MethodName := ⟨RE1, "<init>", "(Ljava/lang/String;Ljava/lang/Throwable;ZZ)V"⟩
abbrev cE2_init : ByteArray := prog_25_method_5_code
def yE2_init : MethodName := ⟨RE2, "<init>", "(Ljava/lang/String;Ljava/lang/Throwable;ZZ)V"⟩
def wsE2_r : List Cond := [.methodLink RE2 1 objectInit, .instanceMethod objectInit, .code objectInit ⟨#[0xb1]⟩ 1 none, .fieldLink RE2 7 "java/lang/Throwable" "cause" "Ljava/lang/Throwable;", .fieldLink RE2 13 "java/lang/Throwable" "UNASSIGNED_STACK" "[Ljava/lang/StackTraceElement;", .fieldLink RE2 17 "java/lang/Throwable" "stackTrace" "[Ljava/lang/StackTraceElement;", .fieldLink RE2 20 "java/lang/Throwable" "SUPPRESSED_SENTINEL" "Ljava/util/List;", .fieldLink RE2 24 "java/lang/Throwable" "suppressedExceptions" "Ljava/util/List;", .fieldLink RE2 31 "java/lang/Throwable" "detailMessage" "Ljava/lang/String;"]
def wsE2_init : List Cond := .code yE2_init cE2_init 5 none :: (wsE2_r ++ wsX120)
def wsE1_r : List Cond := [.methodLink RE1 16 yE2_init, .instanceMethod yE2_init, .initialized RE2, .code yE2_init cE2_init 5 none]
def wsE1_init : List Cond := .code yE1_init cE1_init 5 none :: (wsE1_r ++ wsE2_r ++ wsX120)
def wsX12_s : List Cond := [.methodLink RX12 1 yE1_init, .instanceMethod yE1_init, .initialized RE1, .code yE1_init cE1_init 5 none]
def wsX12_i : List Cond := .code yX12_init cX12_init 1 none :: (wsX12_s ++ wsE1_r ++ wsE2_r ++ wsX120)
theorem gE1_E2 : GoodIn wsE1_init (wsE2_init) := goodIn_of _ (by decide +kernel)
theorem gX12_E1 : GoodIn wsX12_i (wsE1_init) := goodIn_of _ (by decide +kernel)
section GQ
variable {p : Program} {l : Launch} {e : Env} {R : Room} {s : State} {m : MethodId} {args : Array Value} {below : List Frame} {meth : Method} {c : Code} {cc : ByteArray} {own : String} {nL : Nat} {Ts : List Cond} {D : va_G} {A : Nat → Prop} {Q : State → Prop} {k n : Nat} {ws ws' : va_W} {tys : List (ClassId × FieldType)} {lv lv' : List (Nat × Value)} {pc : Nat} {st : List Value}
theorem g_null (F : gF p s m args meth c cc own nL Ts A) (hd : decode cc pc = .ok (.aconst_null, 1)) (kk : gG p l e R s m args below meth c D A nL Q k n ws tys lv (pc + 1) (.null :: st)) : gG p l e R s m args below meth c D A nL Q k n ws tys lv pc st := fun H locs ls hP hD hK hS hl => lv_null F.1 F.2.1 hd (kk H locs ls hP hD hK hS hl)
theorem g_aload_nN (F : gF p s m args meth c cc own nL Ts A) {z : Fin 4} {i : Nat} (j : Nat) (hd : decode cc pc = .ok (.aload_n z, 1)) (hi : (z : Nat) = i) (hj : lv[j]? = some (i, .null)) (kk : gG p l e R s m args below meth c D A nL Q k n ws tys lv (pc + 1) (.null :: st)) : gG p l e R s m args below meth c D A nL Q k n ws tys lv pc st := fun H locs ls hP hD hK hS hl => lv_aload_nN F.1 F.2.1 hd hi (lv_at hl j hj) (kk H locs ls hP hD hK hS hl)
theorem g_gets (F : gF p s m args meth c cc own nL Ts A) {C f d : String} {v : Value} {index : Nat} (hZ : va_Z C f d v A s s.heap) (hlink : (Cond.fieldLink own index C f d).before args s = true) (hd : decode cc pc = .ok (.getstatic index, 3)) (kk : gG p l e R s m args below meth c D A nL Q k n ws tys lv (pc + 3) (v :: st)) : gG p l e R s m args below meth c D A nL Q k n ws tys lv pc st := fun H locs ls hP hD hK hS hl => va_gets F.1 F.2.1 hZ hS F.2.2.2.1 hlink (fun _ h9 => h9) hd (kk H locs ls hP hD hK hS hl)
theorem gF.sub {Ts2 : List Cond} (F : gF p s m args meth c cc own nL Ts A) (h : ∀ w ∈ Ts2, w ∈ Ts) : gF p s m args meth c cc own nL Ts2 A := ⟨F.1, F.2.1, F.2.2.1, F.2.2.2.1, fun w hw => F.2.2.2.2.1 w (h w hw), F.2.2.2.2.2⟩
theorem GoodIn.left {a b w : List Cond} (h : GoodIn a w) : GoodIn (a ++ b) w := fun x hx => ⟨List.mem_append_left _ (h x hx).1, (h x hx).2⟩
end GQ

theorem dE2_init_0 : decode cE2_init 0 = .ok (.aload_n 0, 1) := by decide +kernel
theorem dE2_init_1 : decode cE2_init 1 = .ok (.invokespecial 1, 3) := by decide +kernel
theorem dE2_init_4 : decode cE2_init 4 = .ok (.aload_n 0, 1) := by decide +kernel
theorem dE2_init_5 : decode cE2_init 5 = .ok (.aload_n 0, 1) := by decide +kernel
theorem dE2_init_6 : decode cE2_init 6 = .ok (.putfield 7, 3) := by decide +kernel
theorem dE2_init_9 : decode cE2_init 9 = .ok (.aload_n 0, 1) := by decide +kernel
theorem dE2_init_10 : decode cE2_init 10 = .ok (.getstatic 13, 3) := by decide +kernel
theorem dE2_init_13 : decode cE2_init 13 = .ok (.putfield 17, 3) := by decide +kernel
theorem dE2_init_16 : decode cE2_init 16 = .ok (.aload_n 0, 1) := by decide +kernel
theorem dE2_init_17 : decode cE2_init 17 = .ok (.getstatic 20, 3) := by decide +kernel
theorem dE2_init_20 : decode cE2_init 20 = .ok (.putfield 24, 3) := by decide +kernel
theorem dE2_init_23 : decode cE2_init 23 = .ok (.iload 4, 2) := by decide +kernel
theorem dE2_init_25 : decode cE2_init 25 = .ok (.ifCond .eq 11, 3) := by decide +kernel
theorem dE2_init_36 : decode cE2_init 36 = .ok (.aload_n 0, 1) := by decide +kernel
theorem dE2_init_37 : decode cE2_init 37 = .ok (.aconst_null, 1) := by decide +kernel
theorem dE2_init_38 : decode cE2_init 38 = .ok (.putfield 17, 3) := by decide +kernel
theorem dE2_init_41 : decode cE2_init 41 = .ok (.aload_n 0, 1) := by decide +kernel
theorem dE2_init_42 : decode cE2_init 42 = .ok (.aload_n 1, 1) := by decide +kernel
theorem dE2_init_43 : decode cE2_init 43 = .ok (.putfield 31, 3) := by decide +kernel
theorem dE2_init_46 : decode cE2_init 46 = .ok (.aload_n 0, 1) := by decide +kernel
theorem dE2_init_47 : decode cE2_init 47 = .ok (.aload_n 2, 1) := by decide +kernel
theorem dE2_init_48 : decode cE2_init 48 = .ok (.putfield 7, 3) := by decide +kernel
theorem dE2_init_51 : decode cE2_init 51 = .ok (.iload_n 3, 1) := by decide +kernel
theorem dE2_init_52 : decode cE2_init 52 = .ok (.ifCond .ne 8, 3) := by decide +kernel
theorem dE2_init_55 : decode cE2_init 55 = .ok (.aload_n 0, 1) := by decide +kernel
theorem dE2_init_56 : decode cE2_init 56 = .ok (.aconst_null, 1) := by decide +kernel
theorem dE2_init_57 : decode cE2_init 57 = .ok (.putfield 24, 3) := by decide +kernel
theorem dE2_init_60 : decode cE2_init 60 = .ok (.return_, 1) := by decide +kernel
set_option maxHeartbeats 4000000 in
set_option maxRecDepth 100000 in
theorem K_E2_init (l : Launch) (D : va_G) (tz : Nat) (q0 : Nat) (sz : Nat) : Kvz l yE2_init wsE2_init 1 30 0 0 D tz [.ref q0, .null, .null, .int 0, .int 0] [(q0, .inr (11, [.null, .null, .null, .null, .null, .int 0]))] [] sz (fun (_ : Unit) => True) (fun (_ : Unit) => [(q0, .inr (11, [.null, .null, .null, .null, .null, .int 0]))]) (fun (_ : Unit) => []) := by
  unfold Kvz
  refine g_ofWz (cc := cE2_init) (lv := [(0, .ref q0), (1, .null), (2, .null), (3, .int 0), (4, .int 0)]) (by decide) rfl (Nat.le_of_ble_eq_true rfl) rfl ?_
  intro p e s m args below meth c A Q hA hQ Z F hr hnm
  have hts := F.2.2.2.2.1
  have w_0 : (Cond.methodLink RE2 1 objectInit).before args s = true := hts _ (List.mem_of_getElem? (i := 1) rfl)
  have w_1 : (Cond.instanceMethod objectInit).before args s = true := hts _ (List.mem_of_getElem? (i := 2) rfl)
  have w_2 : (Cond.code objectInit ⟨#[0xb1]⟩ 1 none).before args s = true := hts _ (List.mem_of_getElem? (i := 3) rfl)
  have w_3 : (Cond.fieldLink RE2 7 "java/lang/Throwable" "cause" "Ljava/lang/Throwable;").before args s = true := hts _ (List.mem_of_getElem? (i := 4) rfl)
  have i_X12 : ∀ w ∈ u_ws RX12 TX12 6, w ∈ wsE2_init := fun _ h => List.mem_cons_of_mem _ (List.mem_append_right _ h)
  have w_4 : (Cond.fieldLink RE2 13 "java/lang/Throwable" "UNASSIGNED_STACK" "[Ljava/lang/StackTraceElement;").before args s = true := hts _ (List.mem_of_getElem? (i := 5) rfl)
  have w_5 : (Cond.fieldLink RE2 17 "java/lang/Throwable" "stackTrace" "[Ljava/lang/StackTraceElement;").before args s = true := hts _ (List.mem_of_getElem? (i := 6) rfl)
  have w_6 : (Cond.fieldLink RE2 20 "java/lang/Throwable" "SUPPRESSED_SENTINEL" "Ljava/util/List;").before args s = true := hts _ (List.mem_of_getElem? (i := 7) rfl)
  have w_7 : (Cond.fieldLink RE2 24 "java/lang/Throwable" "suppressedExceptions" "Ljava/util/List;").before args s = true := hts _ (List.mem_of_getElem? (i := 8) rfl)
  have w_8 : (Cond.fieldLink RE2 31 "java/lang/Throwable" "detailMessage" "Ljava/lang/String;").before args s = true := hts _ (List.mem_of_getElem? (i := 9) rfl)
  refine g_aload_n F 0 dE2_init_0 rfl rfl ?_
  refine g_objInit F w_0 w_1 w_2 dE2_init_1 (Nat.le_of_ble_eq_true rfl) (Nat.le_of_ble_eq_true rfl) ?_
  refine g_aload_n F 0 dE2_init_4 rfl rfl ?_
  refine g_aload_n F 0 dE2_init_5 rfl rfl ?_
  refine g_put (C := RX12) (T := TX12) (N := 6) (ty := (.object "java/lang/Throwable")) (v := .ref q0) F i_X12 0 rfl rfl 0 (by decide) w_3 rfl tyX12 tyX12_ok nmX12 rfl (by decide +kernel) rfl rfl (Nat.le_of_ble_eq_true rfl) [(q0, .inr (11, [.ref q0, .null, .null, .null, .null, .int 0]))] rfl dE2_init_6 ?_
  refine g_aload_n F 0 dE2_init_9 rfl rfl ?_
  rcases Z.2.2.2.2.2.2.2.2.1 with hz | ⟨t_10, hz⟩
  · refine g_gets F hz w_4 dE2_init_10 ?_
    refine g_put (C := RX12) (T := TX12) (N := 6) (ty := (.array (.object "java/lang/StackTraceElement"))) (v := .null) F i_X12 0 rfl rfl 1 (by decide) w_5 rfl tyX12 tyX12_ok nmX12 rfl (by decide +kernel) rfl rfl (Nat.le_of_ble_eq_true rfl) [(q0, .inr (11, [.ref q0, .null, .null, .null, .null, .int 0]))] rfl dE2_init_13 ?_
    refine g_aload_n F 0 dE2_init_16 rfl rfl ?_
    rcases Z.2.2.2.2.2.2.2.2.2 with hz | ⟨t_17, hz⟩
    · refine g_gets F hz w_6 dE2_init_17 ?_
      refine g_put (C := RX12) (T := TX12) (N := 6) (ty := (.object "java/util/List")) (v := .null) F i_X12 0 rfl rfl 2 (by decide) w_7 rfl tyX12 tyX12_ok nmX12 rfl (by decide +kernel) rfl rfl (Nat.le_of_ble_eq_true rfl) [(q0, .inr (11, [.ref q0, .null, .null, .null, .null, .int 0]))] rfl dE2_init_20 ?_
      refine g_iload F 4 dE2_init_23 rfl ?_
      refine g_if_eq F 36 dE2_init_25 (by decide) (fun c_25 => ?_) (fun h9 => absurd (by decide) h9) 
      refine g_aload_n F 0 dE2_init_36 rfl rfl ?_
      refine g_null F dE2_init_37 ?_
      refine g_put (C := RX12) (T := TX12) (N := 6) (ty := (.array (.object "java/lang/StackTraceElement"))) (v := .null) F i_X12 0 rfl rfl 1 (by decide) w_5 rfl tyX12 tyX12_ok nmX12 rfl (by decide +kernel) rfl rfl (Nat.le_of_ble_eq_true rfl) [(q0, .inr (11, [.ref q0, .null, .null, .null, .null, .int 0]))] rfl dE2_init_38 ?_
      refine g_aload_n F 0 dE2_init_41 rfl rfl ?_
      refine g_aload_nN F 1 dE2_init_42 rfl rfl ?_
      refine g_put (C := RX12) (T := TX12) (N := 6) (ty := (.object "java/lang/String")) (v := .null) F i_X12 0 rfl rfl 3 (by decide) w_8 rfl tyX12 tyX12_ok nmX12 rfl (by decide +kernel) rfl rfl (Nat.le_of_ble_eq_true rfl) [(q0, .inr (11, [.ref q0, .null, .null, .null, .null, .int 0]))] rfl dE2_init_43 ?_
      refine g_aload_n F 0 dE2_init_46 rfl rfl ?_
      refine g_aload_nN F 2 dE2_init_47 rfl rfl ?_
      refine g_put (C := RX12) (T := TX12) (N := 6) (ty := (.object "java/lang/Throwable")) (v := .null) F i_X12 0 rfl rfl 0 (by decide) w_3 rfl tyX12 tyX12_ok nmX12 rfl (by decide +kernel) rfl rfl (Nat.le_of_ble_eq_true rfl) [(q0, .inr (11, [.null, .null, .null, .null, .null, .int 0]))] rfl dE2_init_48 ?_
      refine g_iload_n F 3 dE2_init_51 rfl rfl ?_
      refine g_if_ne F 60 dE2_init_52 (by decide) (fun h9 => absurd (by decide) h9) (fun c_52 => ?_)
      refine g_aload_n F 0 dE2_init_55 rfl rfl ?_
      refine g_null F dE2_init_56 ?_
      refine g_put (C := RX12) (T := TX12) (N := 6) (ty := (.object "java/util/List")) (v := .null) F i_X12 0 rfl rfl 2 (by decide) w_7 rfl tyX12 tyX12_ok nmX12 rfl (by decide +kernel) rfl rfl (Nat.le_of_ble_eq_true rfl) [(q0, .inr (11, [.null, .null, .null, .null, .null, .int 0]))] rfl dE2_init_57 ?_
      exact g_vret F hA hQ hr () (trivial) [0] [] rfl (by decide) rfl rfl dE2_init_60
    · refine g_gets F hz w_6 dE2_init_17 ?_
      refine g_put (C := RX12) (T := TX12) (N := 6) (ty := (.object "java/util/List")) (v := .ref t_17) F i_X12 0 rfl rfl 2 (by decide) w_7 rfl tyX12 tyX12_ok nmX12 rfl (by decide +kernel) rfl rfl (Nat.le_of_ble_eq_true rfl) [(q0, .inr (11, [.ref q0, .null, .ref t_17, .null, .null, .int 0]))] rfl dE2_init_20 ?_
      refine g_iload F 4 dE2_init_23 rfl ?_
      refine g_if_eq F 36 dE2_init_25 (by decide) (fun c_25 => ?_) (fun h9 => absurd (by decide) h9) 
      refine g_aload_n F 0 dE2_init_36 rfl rfl ?_
      refine g_null F dE2_init_37 ?_
      refine g_put (C := RX12) (T := TX12) (N := 6) (ty := (.array (.object "java/lang/StackTraceElement"))) (v := .null) F i_X12 0 rfl rfl 1 (by decide) w_5 rfl tyX12 tyX12_ok nmX12 rfl (by decide +kernel) rfl rfl (Nat.le_of_ble_eq_true rfl) [(q0, .inr (11, [.ref q0, .null, .ref t_17, .null, .null, .int 0]))] rfl dE2_init_38 ?_
      refine g_aload_n F 0 dE2_init_41 rfl rfl ?_
      refine g_aload_nN F 1 dE2_init_42 rfl rfl ?_
      refine g_put (C := RX12) (T := TX12) (N := 6) (ty := (.object "java/lang/String")) (v := .null) F i_X12 0 rfl rfl 3 (by decide) w_8 rfl tyX12 tyX12_ok nmX12 rfl (by decide +kernel) rfl rfl (Nat.le_of_ble_eq_true rfl) [(q0, .inr (11, [.ref q0, .null, .ref t_17, .null, .null, .int 0]))] rfl dE2_init_43 ?_
      refine g_aload_n F 0 dE2_init_46 rfl rfl ?_
      refine g_aload_nN F 2 dE2_init_47 rfl rfl ?_
      refine g_put (C := RX12) (T := TX12) (N := 6) (ty := (.object "java/lang/Throwable")) (v := .null) F i_X12 0 rfl rfl 0 (by decide) w_3 rfl tyX12 tyX12_ok nmX12 rfl (by decide +kernel) rfl rfl (Nat.le_of_ble_eq_true rfl) [(q0, .inr (11, [.null, .null, .ref t_17, .null, .null, .int 0]))] rfl dE2_init_48 ?_
      refine g_iload_n F 3 dE2_init_51 rfl rfl ?_
      refine g_if_ne F 60 dE2_init_52 (by decide) (fun h9 => absurd (by decide) h9) (fun c_52 => ?_)
      refine g_aload_n F 0 dE2_init_55 rfl rfl ?_
      refine g_null F dE2_init_56 ?_
      refine g_put (C := RX12) (T := TX12) (N := 6) (ty := (.object "java/util/List")) (v := .null) F i_X12 0 rfl rfl 2 (by decide) w_7 rfl tyX12 tyX12_ok nmX12 rfl (by decide +kernel) rfl rfl (Nat.le_of_ble_eq_true rfl) [(q0, .inr (11, [.null, .null, .null, .null, .null, .int 0]))] rfl dE2_init_57 ?_
      exact g_vret F hA hQ hr () (trivial) [0] [] rfl (by decide) rfl rfl dE2_init_60
  · refine g_gets F hz w_4 dE2_init_10 ?_
    refine g_put (C := RX12) (T := TX12) (N := 6) (ty := (.array (.object "java/lang/StackTraceElement"))) (v := .ref t_10) F i_X12 0 rfl rfl 1 (by decide) w_5 rfl tyX12 tyX12_ok nmX12 rfl (by decide +kernel) rfl rfl (Nat.le_of_ble_eq_true rfl) [(q0, .inr (11, [.ref q0, .ref t_10, .null, .null, .null, .int 0]))] rfl dE2_init_13 ?_
    refine g_aload_n F 0 dE2_init_16 rfl rfl ?_
    rcases Z.2.2.2.2.2.2.2.2.2 with hz | ⟨t_17, hz⟩
    · refine g_gets F hz w_6 dE2_init_17 ?_
      refine g_put (C := RX12) (T := TX12) (N := 6) (ty := (.object "java/util/List")) (v := .null) F i_X12 0 rfl rfl 2 (by decide) w_7 rfl tyX12 tyX12_ok nmX12 rfl (by decide +kernel) rfl rfl (Nat.le_of_ble_eq_true rfl) [(q0, .inr (11, [.ref q0, .ref t_10, .null, .null, .null, .int 0]))] rfl dE2_init_20 ?_
      refine g_iload F 4 dE2_init_23 rfl ?_
      refine g_if_eq F 36 dE2_init_25 (by decide) (fun c_25 => ?_) (fun h9 => absurd (by decide) h9) 
      refine g_aload_n F 0 dE2_init_36 rfl rfl ?_
      refine g_null F dE2_init_37 ?_
      refine g_put (C := RX12) (T := TX12) (N := 6) (ty := (.array (.object "java/lang/StackTraceElement"))) (v := .null) F i_X12 0 rfl rfl 1 (by decide) w_5 rfl tyX12 tyX12_ok nmX12 rfl (by decide +kernel) rfl rfl (Nat.le_of_ble_eq_true rfl) [(q0, .inr (11, [.ref q0, .null, .null, .null, .null, .int 0]))] rfl dE2_init_38 ?_
      refine g_aload_n F 0 dE2_init_41 rfl rfl ?_
      refine g_aload_nN F 1 dE2_init_42 rfl rfl ?_
      refine g_put (C := RX12) (T := TX12) (N := 6) (ty := (.object "java/lang/String")) (v := .null) F i_X12 0 rfl rfl 3 (by decide) w_8 rfl tyX12 tyX12_ok nmX12 rfl (by decide +kernel) rfl rfl (Nat.le_of_ble_eq_true rfl) [(q0, .inr (11, [.ref q0, .null, .null, .null, .null, .int 0]))] rfl dE2_init_43 ?_
      refine g_aload_n F 0 dE2_init_46 rfl rfl ?_
      refine g_aload_nN F 2 dE2_init_47 rfl rfl ?_
      refine g_put (C := RX12) (T := TX12) (N := 6) (ty := (.object "java/lang/Throwable")) (v := .null) F i_X12 0 rfl rfl 0 (by decide) w_3 rfl tyX12 tyX12_ok nmX12 rfl (by decide +kernel) rfl rfl (Nat.le_of_ble_eq_true rfl) [(q0, .inr (11, [.null, .null, .null, .null, .null, .int 0]))] rfl dE2_init_48 ?_
      refine g_iload_n F 3 dE2_init_51 rfl rfl ?_
      refine g_if_ne F 60 dE2_init_52 (by decide) (fun h9 => absurd (by decide) h9) (fun c_52 => ?_)
      refine g_aload_n F 0 dE2_init_55 rfl rfl ?_
      refine g_null F dE2_init_56 ?_
      refine g_put (C := RX12) (T := TX12) (N := 6) (ty := (.object "java/util/List")) (v := .null) F i_X12 0 rfl rfl 2 (by decide) w_7 rfl tyX12 tyX12_ok nmX12 rfl (by decide +kernel) rfl rfl (Nat.le_of_ble_eq_true rfl) [(q0, .inr (11, [.null, .null, .null, .null, .null, .int 0]))] rfl dE2_init_57 ?_
      exact g_vret F hA hQ hr () (trivial) [0] [] rfl (by decide) rfl rfl dE2_init_60
    · refine g_gets F hz w_6 dE2_init_17 ?_
      refine g_put (C := RX12) (T := TX12) (N := 6) (ty := (.object "java/util/List")) (v := .ref t_17) F i_X12 0 rfl rfl 2 (by decide) w_7 rfl tyX12 tyX12_ok nmX12 rfl (by decide +kernel) rfl rfl (Nat.le_of_ble_eq_true rfl) [(q0, .inr (11, [.ref q0, .ref t_10, .ref t_17, .null, .null, .int 0]))] rfl dE2_init_20 ?_
      refine g_iload F 4 dE2_init_23 rfl ?_
      refine g_if_eq F 36 dE2_init_25 (by decide) (fun c_25 => ?_) (fun h9 => absurd (by decide) h9) 
      refine g_aload_n F 0 dE2_init_36 rfl rfl ?_
      refine g_null F dE2_init_37 ?_
      refine g_put (C := RX12) (T := TX12) (N := 6) (ty := (.array (.object "java/lang/StackTraceElement"))) (v := .null) F i_X12 0 rfl rfl 1 (by decide) w_5 rfl tyX12 tyX12_ok nmX12 rfl (by decide +kernel) rfl rfl (Nat.le_of_ble_eq_true rfl) [(q0, .inr (11, [.ref q0, .null, .ref t_17, .null, .null, .int 0]))] rfl dE2_init_38 ?_
      refine g_aload_n F 0 dE2_init_41 rfl rfl ?_
      refine g_aload_nN F 1 dE2_init_42 rfl rfl ?_
      refine g_put (C := RX12) (T := TX12) (N := 6) (ty := (.object "java/lang/String")) (v := .null) F i_X12 0 rfl rfl 3 (by decide) w_8 rfl tyX12 tyX12_ok nmX12 rfl (by decide +kernel) rfl rfl (Nat.le_of_ble_eq_true rfl) [(q0, .inr (11, [.ref q0, .null, .ref t_17, .null, .null, .int 0]))] rfl dE2_init_43 ?_
      refine g_aload_n F 0 dE2_init_46 rfl rfl ?_
      refine g_aload_nN F 2 dE2_init_47 rfl rfl ?_
      refine g_put (C := RX12) (T := TX12) (N := 6) (ty := (.object "java/lang/Throwable")) (v := .null) F i_X12 0 rfl rfl 0 (by decide) w_3 rfl tyX12 tyX12_ok nmX12 rfl (by decide +kernel) rfl rfl (Nat.le_of_ble_eq_true rfl) [(q0, .inr (11, [.null, .null, .ref t_17, .null, .null, .int 0]))] rfl dE2_init_48 ?_
      refine g_iload_n F 3 dE2_init_51 rfl rfl ?_
      refine g_if_ne F 60 dE2_init_52 (by decide) (fun h9 => absurd (by decide) h9) (fun c_52 => ?_)
      refine g_aload_n F 0 dE2_init_55 rfl rfl ?_
      refine g_null F dE2_init_56 ?_
      refine g_put (C := RX12) (T := TX12) (N := 6) (ty := (.object "java/util/List")) (v := .null) F i_X12 0 rfl rfl 2 (by decide) w_7 rfl tyX12 tyX12_ok nmX12 rfl (by decide +kernel) rfl rfl (Nat.le_of_ble_eq_true rfl) [(q0, .inr (11, [.null, .null, .null, .null, .null, .int 0]))] rfl dE2_init_57 ?_
      exact g_vret F hA hQ hr () (trivial) [0] [] rfl (by decide) rfl rfl dE2_init_60

theorem dE1_init_0 : decode cE1_init 0 = .ok (.aload_n 0, 1) := by decide +kernel
theorem dE1_init_1 : decode cE1_init 1 = .ok (.aload_n 1, 1) := by decide +kernel
theorem dE1_init_2 : decode cE1_init 2 = .ok (.aload_n 2, 1) := by decide +kernel
theorem dE1_init_3 : decode cE1_init 3 = .ok (.iload_n 3, 1) := by decide +kernel
theorem dE1_init_4 : decode cE1_init 4 = .ok (.iload 4, 2) := by decide +kernel
theorem dE1_init_6 : decode cE1_init 6 = .ok (.invokespecial 16, 3) := by decide +kernel
theorem dE1_init_9 : decode cE1_init 9 = .ok (.return_, 1) := by decide +kernel
set_option maxHeartbeats 4000000 in
set_option maxRecDepth 100000 in
theorem K_E1_init (l : Launch) (D : va_G) (tz : Nat) (q0 : Nat) (sz : Nat) : Kvz l yE1_init wsE1_init 2 54 0 0 D tz [.ref q0, .null, .null, .int 0, .int 0] [(q0, .inr (11, [.null, .null, .null, .null, .null, .int 0]))] [] sz (fun (_ : Unit) => True) (fun (_ : Unit) => [(q0, .inr (11, [.null, .null, .null, .null, .null, .int 0]))]) (fun (_ : Unit) => []) := by
  unfold Kvz
  refine g_ofWz (cc := cE1_init) (lv := [(0, .ref q0), (1, .null), (2, .null), (3, .int 0), (4, .int 0)]) (by decide) rfl (Nat.le_of_ble_eq_true rfl) rfl ?_
  intro p e s m args below meth c A Q hA hQ Z F hr hnm
  have hts := F.2.2.2.2.1
  have w_0 : (Cond.initialized RE2).before args s = true := hts _ (List.mem_of_getElem? (i := 3) rfl)
  have w_1 : (Cond.methodLink RE1 16 yE2_init).before args s = true := hts _ (List.mem_of_getElem? (i := 1) rfl)
  have w_2 : (Cond.instanceMethod yE2_init).before args s = true := hts _ (List.mem_of_getElem? (i := 2) rfl)
  refine g_aload_n F 0 dE1_init_0 rfl rfl ?_
  refine g_aload_nN F 1 dE1_init_1 rfl rfl ?_
  refine g_aload_nN F 2 dE1_init_2 rfl rfl ?_
  refine g_iload_n F 3 dE1_init_3 rfl rfl ?_
  refine g_iload F 4 dE1_init_4 rfl ?_
  refine g_callIvz (k := 0) (n := 0) (b := q0) (As := [.null, .null, .int 0, .int 0]) (st := []) (wc := [(q0, .inr (11, [.null, .null, .null, .null, .null, .int 0]))]) (wr := []) F [0] [] [] rfl rfl (by decide) rfl (by decide) (by decide) rfl Z (fun sz => K_E2_init l D tz q0  sz) (cwI 4 hts gE1_E2 rfl rfl rfl w_0 w_1 w_2 rfl (by decide +kernel) ⟨Nat.le_of_ble_eq_true rfl, Nat.le_of_ble_eq_true rfl⟩) rfl (Nat.le_of_ble_eq_true rfl) ⟨Nat.le_of_ble_eq_true rfl, Nat.le_of_ble_eq_true rfl⟩ dE1_init_6 (fun _ hw_2 => ?_)
  show gG p l e (gR 2 0 0 54) s m args below meth c D A 5 Q 0 0 [(q0, .inr (11, [.null, .null, .null, .null, .null, .int 0]))] [] [(0, .ref q0), (1, .null), (2, .null), (3, .int 0), (4, .int 0)] 9 []
  exact g_vret F hA hQ hr () (trivial) [0] [] rfl (by decide) rfl rfl dE1_init_9

theorem dX12_init_0 : decode cX12_init 0 = .ok (.aload_n 0, 1) := by decide +kernel
theorem dX12_init_1 : decode cX12_init 1 = .ok (.aconst_null, 1) := by decide +kernel
theorem dX12_init_2 : decode cX12_init 2 = .ok (.aconst_null, 1) := by decide +kernel
theorem dX12_init_3 : decode cX12_init 3 = .ok (.iconst 0, 1) := by decide +kernel
theorem dX12_init_4 : decode cX12_init 4 = .ok (.iconst 0, 1) := by decide +kernel
theorem dX12_init_5 : decode cX12_init 5 = .ok (.invokespecial 1, 3) := by decide +kernel
theorem dX12_init_8 : decode cX12_init 8 = .ok (.return_, 1) := by decide +kernel
set_option maxHeartbeats 4000000 in
set_option maxRecDepth 100000 in
theorem K_X12_init (l : Launch) (D : va_G) (tz : Nat) (q0 : Nat) (sz : Nat) : Kvz l yX12_init wsX12_i 3 78 0 0 D tz [.ref q0] [(q0, .inr (11, [.null, .null, .null, .null, .null, .int 0]))] [] sz (fun (_ : Unit) => True) (fun (_ : Unit) => [(q0, .inr (11, [.null, .null, .null, .null, .null, .int 0]))]) (fun (_ : Unit) => []) := by
  unfold Kvz
  refine g_ofWz (cc := cX12_init) (lv := [(0, .ref q0)]) (by decide) rfl (Nat.le_of_ble_eq_true rfl) rfl ?_
  intro p e s m args below meth c A Q hA hQ Z F hr hnm
  have hts := F.2.2.2.2.1
  have w_0 : (Cond.initialized RE1).before args s = true := hts _ (List.mem_of_getElem? (i := 3) rfl)
  have w_1 : (Cond.methodLink RX12 1 yE1_init).before args s = true := hts _ (List.mem_of_getElem? (i := 1) rfl)
  have w_2 : (Cond.instanceMethod yE1_init).before args s = true := hts _ (List.mem_of_getElem? (i := 2) rfl)
  refine g_aload_n F 0 dX12_init_0 rfl rfl ?_
  refine g_null F dX12_init_1 ?_
  refine g_null F dX12_init_2 ?_
  refine g_iconst F 0 dX12_init_3 (by decide) ?_
  refine g_iconst F 0 dX12_init_4 (by decide) ?_
  refine g_callIvz (k := 0) (n := 0) (b := q0) (As := [.null, .null, .int 0, .int 0]) (st := []) (wc := [(q0, .inr (11, [.null, .null, .null, .null, .null, .int 0]))]) (wr := []) F [0] [] [] rfl rfl (by decide) rfl (by decide) (by decide) rfl Z (fun sz => K_E1_init l D tz q0  sz) (cwI 4 hts gX12_E1 rfl rfl rfl w_0 w_1 w_2 rfl (by decide +kernel) ⟨Nat.le_of_ble_eq_true rfl, Nat.le_of_ble_eq_true rfl⟩) rfl (Nat.le_of_ble_eq_true rfl) ⟨Nat.le_of_ble_eq_true rfl, Nat.le_of_ble_eq_true rfl⟩ dX12_init_5 (fun _ hw_2 => ?_)
  show gG p l e (gR 3 0 0 78) s m args below meth c D A 1 Q 0 0 [(q0, .inr (11, [.null, .null, .null, .null, .null, .int 0]))] [] [(0, .ref q0)] 8 []
  exact g_vret F hA hQ hr () (trivial) [0] [] rfl (by decide) rfl rfl dX12_init_8
