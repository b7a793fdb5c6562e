
set_option maxHeartbeats 4000000 in
set_option maxRecDepth 100000 in
theorem K_X6_makeFresh (l : Launch) (D : va_G) (p0 : Nat) (ps : Nat) (ph : Nat) (pl : Nat) (pr : Nat → Nat) (cI : ClassId) (cII : ClassId) (w : Int32) (ps_ : Int32) (f : Nat → Int32) (g : Nat → Int32) (v : Int32) (sz : Nat) : Kv l yX6_makeFresh wsX6_makeFresh 2 53 0 0 D [.ref p0, .int v] [(p0, .inr (5, [.ref ps, .ref ph, .int w, .int ps_, .ref pl])), (ph, .inl (cI, 96, .inl f)), (pl, .inl (cII, 4, .inr (.inr (.inr (.inr (fun i => if i < 4 then some (pr i) else none)))))), ((pr 0), .inl (cI, 96, .inl g))] [(cI, .int), (cII, .array .int)] sz (fun (_ : Unit) => True) (fun (_ : Unit) => [(p0, .inr (5, [.ref ps, .ref ph, .int 0, .int 0, .ref pl])), (ph, .inl (cI, 96, .inl (fun _ => v))), (pl, .inl (cII, 4, .inr (.inr (.inr (.inr (fun i => if i < 4 then some (pr i) else none)))))), ((pr 0), .inl (cI, 96, .inl (fun _ => (-1))))]) (fun (_ : Unit) => [(cI, .int), (cII, .array .int)]) := by
  unfold Kv
  refine g_ofW (cc := cX6_makeFresh) (lv := [(0, .ref p0), (1, .int v)]) (by decide) rfl (Nat.le_of_ble_eq_true rfl) rfl ?_
  intro p e s m args below meth c A Q hA hQ F hr hnm
  have hts := F.2.2.2.2.1
  have w_0 : (Cond.fieldLink RX6 9 "QuietCut$Piece" "heights" "[I").before args s = true := hts _ (List.mem_of_getElem? (i := 1) rfl)
  have i_X6 : ∀ w ∈ u_ws RX6 TX6 5, w ∈ wsX6_makeFresh := fun _ h => List.mem_cons_of_mem _ (List.mem_append_right _ h)
  have w_1 : (Cond.fieldLink RX6 17 "QuietCut$Piece" "left" "[[I").before args s = true := hts _ (List.mem_of_getElem? (i := 2) rfl)
  have w_2 : (Cond.fieldLink RX6 34 "QuietCut$Piece" "wear" "I").before args s = true := hts _ (List.mem_of_getElem? (i := 3) rfl)
  have w_3 : (Cond.fieldLink RX6 38 "QuietCut$Piece" "passes" "I").before args s = true := hts _ (List.mem_of_getElem? (i := 4) rfl)
  refine g_aload_n F 0 dX6_makeFresh_0 rfl rfl ?_
  refine g_get (C := RX6) (T := TX6) (N := 5) (v := .ref ph) F i_X6 0 rfl rfl 1 (by decide) w_0 rfl rfl dX6_makeFresh_1 ?_
  refine g_iload_n F 1 dX6_makeFresh_4 rfl rfl ?_
  refine g_callSv (k := 0) (n := 0) (As := [.ref ph, .int v]) (st := []) (wc := [(ph, .inl (cI, 96, .inl f))]) (wr := [(p0, .inr (5, [.ref ps, .ref ph, .int w, .int ps_, .ref pl])), (pl, .inl (cII, 4, .inr (.inr (.inr (.inr (fun i => if i < 4 then some (pr i) else none)))))), ((pr 0), .inl (cI, 96, .inl g))]) F [1] [0, 2, 3] [0] rfl rfl (by decide) rfl (by decide) (by decide) rfl (fun sz => K_J7_fill_53178 l D ph 96 f v cI (by first | assumption | decide | omega) sz) (va_cwS 2 hts gX6_makeFresh_J7_fill_53178 rfl rfl rfl (by decide +kernel) ⟨Nat.le_of_ble_eq_true rfl, Nat.le_of_ble_eq_true rfl⟩) rfl (Nat.le_of_ble_eq_true rfl) ⟨Nat.le_of_ble_eq_true rfl, Nat.le_of_ble_eq_true rfl⟩ dX6_makeFresh_5 (fun _ hw_2 => ?_)
  show gG p l e (gR 2 0 0 53) s m args below meth c D A 2 Q 0 0 [(p0, .inr (5, [.ref ps, .ref ph, .int w, .int ps_, .ref pl])), (pl, .inl (cII, 4, .inr (.inr (.inr (.inr (fun i => if i < 4 then some (pr i) else none)))))), ((pr 0), .inl (cI, 96, .inl g)), (ph, .inl (cI, 96, .inl (fun _ => v)))] [(cI, .int), (cII, .array .int)] [(0, .ref p0), (1, .int v)] 8 []
  refine g_aload_n F 0 dX6_makeFresh_8 rfl rfl ?_
  refine g_get (C := RX6) (T := TX6) (N := 5) (v := .ref pl) F i_X6 0 rfl rfl 4 (by decide) w_1 rfl rfl dX6_makeFresh_9 ?_
  refine g_iconst F 0 dX6_makeFresh_12 (by decide) ?_
  refine g_aald (b := (pr 0)) F 1 1 rfl rfl (by unfold vp_in; decide) (by rfl) dX6_makeFresh_13 ?_
  refine g_iconst F (-1) dX6_makeFresh_14 (by decide) ?_
  refine g_callSv (k := 0) (n := 0) (As := [.ref (pr 0), .int (-1)]) (st := []) (wc := [((pr 0), .inl (cI, 96, .inl g))]) (wr := [(p0, .inr (5, [.ref ps, .ref ph, .int w, .int ps_, .ref pl])), (pl, .inl (cII, 4, .inr (.inr (.inr (.inr (fun i => if i < 4 then some (pr i) else none)))))), (ph, .inl (cI, 96, .inl (fun _ => v)))]) F [2] [0, 1, 3] [0] rfl rfl (by decide) rfl (by decide) (by decide) rfl (fun sz => K_J7_fill_53178 l D (pr 0) 96 g (-1) cI (by first | assumption | decide | omega) sz) (va_cwS 2 hts gX6_makeFresh_J7_fill_53178 rfl rfl rfl (by decide +kernel) ⟨Nat.le_of_ble_eq_true rfl, Nat.le_of_ble_eq_true rfl⟩) rfl (Nat.le_of_ble_eq_true rfl) ⟨Nat.le_of_ble_eq_true rfl, Nat.le_of_ble_eq_true rfl⟩ dX6_makeFresh_15 (fun _ hw_7 => ?_)
  show gG p l e (gR 2 0 0 53) s m args below meth c D A 2 Q 0 0 [(p0, .inr (5, [.ref ps, .ref ph, .int w, .int ps_, .ref pl])), (pl, .inl (cII, 4, .inr (.inr (.inr (.inr (fun i => if i < 4 then some (pr i) else none)))))), (ph, .inl (cI, 96, .inl (fun _ => v))), ((pr 0), .inl (cI, 96, .inl (fun _ => (-1))))] [(cI, .int), (cII, .array .int)] [(0, .ref p0), (1, .int v)] 18 []
  refine g_aload_n F 0 dX6_makeFresh_18 rfl rfl ?_
  refine g_iconst F 0 dX6_makeFresh_19 (by decide) ?_
  refine g_put (C := RX6) (T := TX6) (N := 5) (ty := .int) (v := .int 0) F i_X6 0 rfl rfl 2 (by decide) w_2 rfl tyX6 tyX6_ok nmX6 rfl (by decide +kernel) rfl rfl (Nat.le_of_ble_eq_true rfl) [(p0, .inr (5, [.ref ps, .ref ph, .int 0, .int ps_, .ref pl])), (pl, .inl (cII, 4, .inr (.inr (.inr (.inr (fun i => if i < 4 then some (pr i) else none)))))), (ph, .inl (cI, 96, .inl (fun _ => v))), ((pr 0), .inl (cI, 96, .inl (fun _ => (-1))))] rfl dX6_makeFresh_20 ?_
  refine g_aload_n F 0 dX6_makeFresh_23 rfl rfl ?_
  refine g_iconst F 0 dX6_makeFresh_24 (by decide) ?_
  refine g_put (C := RX6) (T := TX6) (N := 5) (ty := .int) (v := .int 0) F i_X6 0 rfl rfl 3 (by decide) w_3 rfl tyX6 tyX6_ok nmX6 rfl (by decide +kernel) rfl rfl (Nat.le_of_ble_eq_true rfl) [(p0, .inr (5, [.ref ps, .ref ph, .int 0, .int 0, .ref pl])), (pl, .inl (cII, 4, .inr (.inr (.inr (.inr (fun i => if i < 4 then some (pr i) else none)))))), (ph, .inl (cI, 96, .inl (fun _ => v))), ((pr 0), .inl (cI, 96, .inl (fun _ => (-1))))] rfl dX6_makeFresh_25 ?_
  exact g_vret F hA hQ hr () (trivial) [0, 2, 1, 3] [0, 1] rfl (by decide) rfl rfl dX6_makeFresh_28

theorem dX6_init_0 : decode cX6_init 0 = .ok (.aload_n 0, 1) := by decide +kernel
theorem dX6_init_1 : decode cX6_init 1 = .ok (.invokespecial 3, 3) := by decide +kernel
theorem dX6_init_4 : decode cX6_init 4 = .ok (.aload_n 0, 1) := by decide +kernel
theorem dX6_init_5 : decode cX6_init 5 = .ok (.bipush 96, 2) := by decide +kernel
theorem dX6_init_7 : decode cX6_init 7 = .ok (.newarray .int, 2) := by decide +kernel
theorem dX6_init_9 : decode cX6_init 9 = .ok (.putfield 9, 3) := by decide +kernel
theorem dX6_init_12 : decode cX6_init 12 = .ok (.aload_n 0, 1) := by decide +kernel
theorem dX6_init_13 : decode cX6_init 13 = .ok (.iconst 4, 1) := by decide +kernel
theorem dX6_init_14 : decode cX6_init 14 = .ok (.bipush 96, 2) := by decide +kernel
theorem dX6_init_16 : decode cX6_init 16 = .ok (.multianewarray 15 2, 4) := by decide +kernel
theorem dX6_init_20 : decode cX6_init 20 = .ok (.putfield 17, 3) := by decide +kernel
theorem dX6_init_23 : decode cX6_init 23 = .ok (.aload_n 0, 1) := by decide +kernel
theorem dX6_init_24 : decode cX6_init 24 = .ok (.aload_n 1, 1) := by decide +kernel
theorem dX6_init_25 : decode cX6_init 25 = .ok (.putfield 20, 3) := by decide +kernel
theorem dX6_init_28 : decode cX6_init 28 = .ok (.aload_n 0, 1) := by decide +kernel
theorem dX6_init_29 : decode cX6_init 29 = .ok (.sipush 1000, 3) := by decide +kernel
theorem dX6_init_32 : decode cX6_init 32 = .ok (.invokevirtual 24, 3) := by decide +kernel
theorem dX6_init_35 : decode cX6_init 35 = .ok (.return_, 1) := by decide +kernel
set_option maxRecDepth 20000 in
theorem ggX6_init_X6_makeFresh : GoodIn wsX6_init wsX6_makeFresh := goodIn_r _ [13, 5, 7, 14, 15, 16, 17, 18, 19, 20, 21, 22, 23, 24] rfl (by decide +kernel)
set_option maxRecDepth 20000 in
theorem gX6_init_X6_makeFresh : GoodIn wsX6_init (wsV RX6 24 RX6 yX6_makeFresh wsX6_makeFresh) := goodIn_app (goodIn_of _ (by decide +kernel)) ggX6_init_X6_makeFresh
set_option maxHeartbeats 4000000 in
set_option maxRecDepth 100000 in
theorem K_X6_init (l : Launch) (D : va_G) (tz : Nat) (p0 : Nat) (ps : Nat) (cI : ClassId) (cII : ClassId) (sz : Nat) : Kvz l yX6_init wsX6_init 3 74 6 484 D tz [.ref p0, .ref ps] [(p0, .inr (5, [.null, .null, .int 0, .int 0, .null]))] [(cI, .int), (cII, .array .int)] sz (fun (u : Nat × Nat × (Nat → Nat)) => True) (fun (u : Nat × Nat × (Nat → Nat)) => [(p0, .inr (5, [.ref ps, .ref u.1, .int 0, .int 0, .ref u.2.1])), (u.1, .inl (cI, 96, .inl (fun _ => 1000))), (u.2.1, .inl (cII, 4, .inr (.inr (.inr (.inr (fun i => if i < 4 then some (u.2.2 i) else none)))))), ((u.2.2 0), .inl (cI, 96, .inl (fun _ => (-1)))), ((u.2.2 1), .inl (cI, 96, .inl (fun _ => 0))), ((u.2.2 2), .inl (cI, 96, .inl (fun _ => 0))), ((u.2.2 3), .inl (cI, 96, .inl (fun _ => 0)))]) (fun (_ : Nat × Nat × (Nat → Nat)) => [(cI, .int), (cII, .array .int)]) := by
  unfold Kvz
  refine g_ofWz (cc := cX6_init) (lv := [(0, .ref p0), (1, .ref ps)]) (by decide) rfl (Nat.le_of_ble_eq_true rfl) rfl ?_
  intro p e s m args below meth c A Q hA hQ Z F hr hnm
  have hts := F.2.2.2.2.1
  have w_0 : (Cond.methodLink RX6 3 objectInit).before args s = true := hts _ (List.mem_of_getElem? (i := 1) rfl)
  have w_1 : (Cond.instanceMethod objectInit).before args s = true := hts _ (List.mem_of_getElem? (i := 2) rfl)
  have w_2 : (Cond.code objectInit ⟨#[0xb1]⟩ 1 none).before args s = true := hts _ (List.mem_of_getElem? (i := 3) rfl)
  have w_3 : (Cond.arrayClass .int).before args s = true := hts _ (List.mem_of_getElem? (i := 4) rfl)
  have w_4 : (Cond.fieldLink RX6 9 "QuietCut$Piece" "heights" "[I").before args s = true := hts _ (List.mem_of_getElem? (i := 5) rfl)
  have i_X6 : ∀ w ∈ u_ws RX6 TX6 5, w ∈ wsX6_init := fun _ h => List.mem_cons_of_mem _ (List.mem_append_right _ h)
  have w_5 : (Cond.classLink RX6 15 "[[I").before args s = true := hts _ (List.mem_of_getElem? (i := 6) rfl)
  have w_6 : (Cond.fieldLink RX6 17 "QuietCut$Piece" "left" "[[I").before args s = true := hts _ (List.mem_of_getElem? (i := 7) rfl)
  have w_7 : (Cond.fieldLink RX6 20 "QuietCut$Piece" "shop" "LQuietCut$Shop;").before args s = true := hts _ (List.mem_of_getElem? (i := 8) rfl)
  refine g_aload_n F 0 dX6_init_0 rfl rfl ?_
  refine g_objInit F w_0 w_1 w_2 dX6_init_1 (Nat.le_of_ble_eq_true rfl) (Nat.le_of_ble_eq_true rfl) ?_
  refine g_aload_n F 0 dX6_init_4 rfl rfl ?_
  refine g_bipush F 96 dX6_init_5 (by decide) ?_
  refine g_newi F 0 rfl w_3 96 (by decide) rfl (by decide) (Nat.le_of_ble_eq_true rfl) (Nat.le_of_ble_eq_true rfl) dX6_init_7 (fun ph => ?_)
  show gG p l e (gR 3 6 484 74) s m args below meth c D A 2 Q 1 96 [(p0, .inr (5, [.null, .null, .int 0, .int 0, .null])), (ph, .inl (cI, 96, .inl (fun _ => 0)))] [(cI, .int), (cII, .array .int)] [(0, .ref p0), (1, .ref ps)] 9 [.ref ph, .ref p0]
  refine g_putF (C := RX6) (T := TX6) (N := 5) (ty := (.array .int)) (v := .ref ph) F i_X6 0 rfl rfl 1 (by decide) w_4 rfl tyX6 tyX6_ok nmX6 rfl hnm rfl (by decide +kernel) rfl rfl (Nat.le_of_ble_eq_true rfl) [(p0, .inr (5, [.null, .ref ph, .int 0, .int 0, .null])), (ph, .inl (cI, 96, .inl (fun _ => 0)))] rfl dX6_init_9 ?_
  refine g_aload_n F 0 dX6_init_12 rfl rfl ?_
  refine g_iconst F 4 dX6_init_13 (by decide) ?_
  refine g_bipush F 96 dX6_init_14 (by decide) ?_
  refine g_mna F 0 1 rfl rfl (cn := "[[I") (by decide) w_5 Z w_3 4 96 4 (by decide) (by decide) (by decide) rfl rfl (by decide) (by decide) (by decide) (Nat.le_of_ble_eq_true rfl) (Nat.le_of_ble_eq_true rfl) dX6_init_16 (fun pl plr => ?_)
  show gG p l e (gR 3 6 484 74) s m args below meth c D A 2 Q 6 484 [(p0, .inr (5, [.null, .ref ph, .int 0, .int 0, .null])), (ph, .inl (cI, 96, .inl (fun _ => 0))), (pl, .inl (cII, 4, .inr (.inr (.inr (.inr (fun i => if i < 4 then some (plr i) else none)))))), ((plr 0), .inl (cI, 96, .inl (fun _ => 0))), ((plr 1), .inl (cI, 96, .inl (fun _ => 0))), ((plr 2), .inl (cI, 96, .inl (fun _ => 0))), ((plr 3), .inl (cI, 96, .inl (fun _ => 0)))] [(cI, .int), (cII, .array .int)] [(0, .ref p0), (1, .ref ps)] 20 [.ref pl, .ref p0]
  refine g_putF (C := RX6) (T := TX6) (N := 5) (ty := (.array (.array .int))) (v := .ref pl) F i_X6 0 rfl rfl 4 (by decide) w_6 rfl tyX6 tyX6_ok nmX6 rfl hnm rfl (by decide +kernel) rfl rfl (Nat.le_of_ble_eq_true rfl) [(p0, .inr (5, [.null, .ref ph, .int 0, .int 0, .ref pl])), (ph, .inl (cI, 96, .inl (fun _ => 0))), (pl, .inl (cII, 4, .inr (.inr (.inr (.inr (fun i => if i < 4 then some (plr i) else none)))))), ((plr 0), .inl (cI, 96, .inl (fun _ => 0))), ((plr 1), .inl (cI, 96, .inl (fun _ => 0))), ((plr 2), .inl (cI, 96, .inl (fun _ => 0))), ((plr 3), .inl (cI, 96, .inl (fun _ => 0)))] rfl dX6_init_20 ?_
  refine g_aload_n F 0 dX6_init_23 rfl rfl ?_
  refine g_aload_n F 1 dX6_init_24 rfl rfl ?_
  refine g_putF (C := RX6) (T := TX6) (N := 5) (ty := (.object "QuietCut$Shop")) (v := .ref ps) F i_X6 0 rfl rfl 0 (by decide) w_7 rfl tyX6 tyX6_ok nmX6 rfl hnm rfl (by decide +kernel) rfl rfl (Nat.le_of_ble_eq_true rfl) [(p0, .inr (5, [.ref ps, .ref ph, .int 0, .int 0, .ref pl])), (ph, .inl (cI, 96, .inl (fun _ => 0))), (pl, .inl (cII, 4, .inr (.inr (.inr (.inr (fun i => if i < 4 then some (plr i) else none)))))), ((plr 0), .inl (cI, 96, .inl (fun _ => 0))), ((plr 1), .inl (cI, 96, .inl (fun _ => 0))), ((plr 2), .inl (cI, 96, .inl (fun _ => 0))), ((plr 3), .inl (cI, 96, .inl (fun _ => 0)))] rfl dX6_init_25 ?_
  refine g_aload_n F 0 dX6_init_28 rfl rfl ?_
  refine g_sipush F 1000 dX6_init_29 (by decide) ?_
  refine g_callVv (k := 6) (n := 484) (b := p0) (As := [.int 1000]) (st := []) (wc := [(p0, .inr (5, [.ref ps, .ref ph, .int 0, .int 0, .ref pl])), (ph, .inl (cI, 96, .inl (fun _ => 0))), (pl, .inl (cII, 4, .inr (.inr (.inr (.inr (fun i => if i < 4 then some (plr i) else none)))))), ((plr 0), .inl (cI, 96, .inl (fun _ => 0)))]) (wr := [((plr 1), .inl (cI, 96, .inl (fun _ => 0))), ((plr 2), .inl (cI, 96, .inl (fun _ => 0))), ((plr 3), .inl (cI, 96, .inl (fun _ => 0)))]) F [0, 1, 2, 3] [4, 5, 6] [0, 1] rfl rfl (by decide) rfl (by decide) (by decide) rfl (fun sz => K_X6_makeFresh l D p0 ps ph pl plr cI cII 0 0 (fun _ => 0) (fun _ => 0) 1000  sz) (cwV 1 hts gX6_init_X6_makeFresh rfl rfl rfl (by decide +kernel) ⟨Nat.le_of_ble_eq_true rfl, Nat.le_of_ble_eq_true rfl⟩) rfl 0 rfl rfl (Nat.le_of_ble_eq_true rfl) ⟨Nat.le_of_ble_eq_true rfl, Nat.le_of_ble_eq_true rfl⟩ dX6_init_32 (fun _ hw_2 => ?_)
  show gG p l e (gR 3 6 484 74) s m args below meth c D A 2 Q 6 484 [((plr 1), .inl (cI, 96, .inl (fun _ => 0))), ((plr 2), .inl (cI, 96, .inl (fun _ => 0))), ((plr 3), .inl (cI, 96, .inl (fun _ => 0))), (p0, .inr (5, [.ref ps, .ref ph, .int 0, .int 0, .ref pl])), (ph, .inl (cI, 96, .inl (fun _ => 1000))), (pl, .inl (cII, 4, .inr (.inr (.inr (.inr (fun i => if i < 4 then some (plr i) else none)))))), ((plr 0), .inl (cI, 96, .inl (fun _ => (-1))))] [(cI, .int), (cII, .array .int)] [(0, .ref p0), (1, .ref ps)] 35 []
  exact g_vret F hA hQ hr (ph, pl, plr) (trivial) [3, 4, 5, 6, 0, 1, 2] [0, 1] rfl (by decide) rfl rfl dX6_init_35

theorem dX5_init_0 : decode cX5_init 0 = .ok (.aload_n 0, 1) := by decide +kernel
theorem dX5_init_1 : decode cX5_init 1 = .ok (.invokespecial 3, 3) := by decide +kernel
theorem dX5_init_4 : decode cX5_init 4 = .ok (.aload_n 0, 1) := by decide +kernel
theorem dX5_init_5 : decode cX5_init 5 = .ok (.iconst 4, 1) := by decide +kernel
theorem dX5_init_6 : decode cX5_init 6 = .ok (.newarray .int, 2) := by decide +kernel
theorem dX5_init_8 : decode cX5_init 8 = .ok (.putfield 11, 3) := by decide +kernel
theorem dX5_init_11 : decode cX5_init 11 = .ok (.aload_n 0, 1) := by decide +kernel
theorem dX5_init_12 : decode cX5_init 12 = .ok (.bipush 16, 2) := by decide +kernel
theorem dX5_init_14 : decode cX5_init 14 = .ok (.newarray .int, 2) := by decide +kernel
theorem dX5_init_16 : decode cX5_init 16 = .ok (.putfield 17, 3) := by decide +kernel
theorem dX5_init_19 : decode cX5_init 19 = .ok (.aload_n 0, 1) := by decide +kernel
theorem dX5_init_20 : decode cX5_init 20 = .ok (.bipush 16, 2) := by decide +kernel
theorem dX5_init_22 : decode cX5_init 22 = .ok (.newarray .int, 2) := by decide +kernel
theorem dX5_init_24 : decode cX5_init 24 = .ok (.putfield 20, 3) := by decide +kernel
theorem dX5_init_27 : decode cX5_init 27 = .ok (.aload_n 0, 1) := by decide +kernel
theorem dX5_init_28 : decode cX5_init 28 = .ok (.bipush 16, 2) := by decide +kernel
theorem dX5_init_30 : decode cX5_init 30 = .ok (.newarray .int, 2) := by decide +kernel
theorem dX5_init_32 : decode cX5_init 32 = .ok (.putfield 23, 3) := by decide +kernel
theorem dX5_init_35 : decode cX5_init 35 = .ok (.aload_n 0, 1) := by decide +kernel
theorem dX5_init_36 : decode cX5_init 36 = .ok (.bipush 16, 2) := by decide +kernel
theorem dX5_init_38 : decode cX5_init 38 = .ok (.newarray .int, 2) := by decide +kernel
theorem dX5_init_40 : decode cX5_init 40 = .ok (.putfield 26, 3) := by decide +kernel
theorem dX5_init_43 : decode cX5_init 43 = .ok (.aload_n 0, 1) := by decide +kernel
theorem dX5_init_44 : decode cX5_init 44 = .ok (.aload_n 1, 1) := by decide +kernel
theorem dX5_init_45 : decode cX5_init 45 = .ok (.putfield 29, 3) := by decide +kernel
theorem dX5_init_48 : decode cX5_init 48 = .ok (.return_, 1) := by decide +kernel
set_option maxHeartbeats 4000000 in
set_option maxRecDepth 100000 in
theorem K_X5_init (l : Launch) (D : va_G) (l0 : Nat) (ls : Nat) (cI : ClassId) (sz : Nat) : Kv l yX5_init wsX5_init 1 30 5 68 D [.ref l0, .ref ls] [(l0, .inr (4, [.null, .int 0, .int 0, .int 0, .int 0, .null, .int 0, .int 0, .null, .null, .null, .null, .int 0, .int 0, .int 0, .int 0, .int 0, .int 0, .int 0, .int 0]))] [(cI, .int)] sz (fun (u : Nat × Nat × Nat × Nat × Nat) => True) (fun (u : Nat × Nat × Nat × Nat × Nat) => [(l0, .inr (4, [.ref ls, .int 0, .int 0, .int 0, .int 0, .ref u.1, .int 0, .int 0, .ref u.2.1, .ref u.2.2.1, .ref u.2.2.2.1, .ref u.2.2.2.2, .int 0, .int 0, .int 0, .int 0, .int 0, .int 0, .int 0, .int 0])), (u.1, .inl (cI, 4, .inl (fun _ => 0))), (u.2.1, .inl (cI, 16, .inl (fun _ => 0))), (u.2.2.1, .inl (cI, 16, .inl (fun _ => 0))), (u.2.2.2.1, .inl (cI, 16, .inl (fun _ => 0))), (u.2.2.2.2, .inl (cI, 16, .inl (fun _ => 0)))]) (fun (_ : Nat × Nat × Nat × Nat × Nat) => [(cI, .int)]) := by
  unfold Kv
  refine g_ofW (cc := cX5_init) (lv := [(0, .ref l0), (1, .ref ls)]) (by decide) rfl (Nat.le_of_ble_eq_true rfl) rfl ?_
  intro p e s m args below meth c A Q hA hQ F hr hnm
  have hts := F.2.2.2.2.1
  have w_0 : (Cond.methodLink RX5 3 objectInit).before args s = true := hts _ (List.mem_of_getElem? (i := 1) rfl)
  have w_1 : (Cond.instanceMethod objectInit).before args s = true := hts _ (List.mem_of_getElem? (i := 2) rfl)
  have w_2 : (Cond.code objectInit ⟨#[0xb1]⟩ 1 none).before args s = true := hts _ (List.mem_of_getElem? (i := 3) rfl)
  have w_3 : (Cond.arrayClass .int).before args s = true := hts _ (List.mem_of_getElem? (i := 4) rfl)
  have w_4 : (Cond.fieldLink RX5 11 "QuietCut$Lathe" "teeth" "[I").before args s = true := hts _ (List.mem_of_getElem? (i := 5) rfl)
  have i_X5 : ∀ w ∈ u_ws RX5 TX5 20, w ∈ wsX5_init := fun _ h => List.mem_cons_of_mem _ (List.mem_append_right _ h)
  have w_5 : (Cond.fieldLink RX5 17 "QuietCut$Lathe" "heights" "[I").before args s = true := hts _ (List.mem_of_getElem? (i := 6) rfl)
  have w_6 : (Cond.fieldLink RX5 20 "QuietCut$Lathe" "leftTurn" "[I").before args s = true := hts _ (List.mem_of_getElem? (i := 7) rfl)
  have w_7 : (Cond.fieldLink RX5 23 "QuietCut$Lathe" "leftTooth" "[I").before args s = true := hts _ (List.mem_of_getElem? (i := 8) rfl)
  have w_8 : (Cond.fieldLink RX5 26 "QuietCut$Lathe" "leftX" "[I").before args s = true := hts _ (List.mem_of_getElem? (i := 9) rfl)
  have w_9 : (Cond.fieldLink RX5 29 "QuietCut$Lathe" "shop" "LQuietCut$Shop;").before args s = true := hts _ (List.mem_of_getElem? (i := 10) rfl)
  refine g_aload_n F 0 dX5_init_0 rfl rfl ?_
  refine g_objInit F w_0 w_1 w_2 dX5_init_1 (Nat.le_of_ble_eq_true rfl) (Nat.le_of_ble_eq_true rfl) ?_
  refine g_aload_n F 0 dX5_init_4 rfl rfl ?_
  refine g_iconst F 4 dX5_init_5 (by decide) ?_
  refine g_newi F 0 rfl w_3 4 (by decide) rfl (by decide) (Nat.le_of_ble_eq_true rfl) (Nat.le_of_ble_eq_true rfl) dX5_init_6 (fun la_t => ?_)
  show gG p l e (gR 1 5 68 30) s m args below meth c D A 2 Q 1 4 [(l0, .inr (4, [.null, .int 0, .int 0, .int 0, .int 0, .null, .int 0, .int 0, .null, .null, .null, .null, .int 0, .int 0, .int 0, .int 0, .int 0, .int 0, .int 0, .int 0])), (la_t, .inl (cI, 4, .inl (fun _ => 0)))] [(cI, .int)] [(0, .ref l0), (1, .ref ls)] 8 [.ref la_t, .ref l0]
  refine g_putF (C := RX5) (T := TX5) (N := 20) (ty := (.array .int)) (v := .ref la_t) F i_X5 0 rfl rfl 5 (by decide) w_4 rfl tyX5 tyX5_ok nmX5 rfl hnm rfl (by decide +kernel) rfl rfl (Nat.le_of_ble_eq_true rfl) [(l0, .inr (4, [.null, .int 0, .int 0, .int 0, .int 0, .ref la_t, .int 0, .int 0, .null, .null, .null, .null, .int 0, .int 0, .int 0, .int 0, .int 0, .int 0, .int 0, .int 0])), (la_t, .inl (cI, 4, .inl (fun _ => 0)))] rfl dX5_init_8 ?_
  refine g_aload_n F 0 dX5_init_11 rfl rfl ?_
  refine g_bipush F 16 dX5_init_12 (by decide) ?_
  refine g_newi F 0 rfl w_3 16 (by decide) rfl (by decide) (Nat.le_of_ble_eq_true rfl) (Nat.le_of_ble_eq_true rfl) dX5_init_14 (fun la_h => ?_)
  show gG p l e (gR 1 5 68 30) s m args below meth c D A 2 Q 2 20 [(l0, .inr (4, [.null, .int 0, .int 0, .int 0, .int 0, .ref la_t, .int 0, .int 0, .null, .null, .null, .null, .int 0, .int 0, .int 0, .int 0, .int 0, .int 0, .int 0, .int 0])), (la_t, .inl (cI, 4, .inl (fun _ => 0))), (la_h, .inl (cI, 16, .inl (fun _ => 0)))] [(cI, .int)] [(0, .ref l0), (1, .ref ls)] 16 [.ref la_h, .ref l0]
  refine g_putF (C := RX5) (T := TX5) (N := 20) (ty := (.array .int)) (v := .ref la_h) F i_X5 0 rfl rfl 8 (by decide) w_5 rfl tyX5 tyX5_ok nmX5 rfl hnm rfl (by decide +kernel) rfl rfl (Nat.le_of_ble_eq_true rfl) [(l0, .inr (4, [.null, .int 0, .int 0, .int 0, .int 0, .ref la_t, .int 0, .int 0, .ref la_h, .null, .null, .null, .int 0, .int 0, .int 0, .int 0, .int 0, .int 0, .int 0, .int 0])), (la_t, .inl (cI, 4, .inl (fun _ => 0))), (la_h, .inl (cI, 16, .inl (fun _ => 0)))] rfl dX5_init_16 ?_
  refine g_aload_n F 0 dX5_init_19 rfl rfl ?_
  refine g_bipush F 16 dX5_init_20 (by decide) ?_
  refine g_newi F 0 rfl w_3 16 (by decide) rfl (by decide) (Nat.le_of_ble_eq_true rfl) (Nat.le_of_ble_eq_true rfl) dX5_init_22 (fun la_u => ?_)
  show gG p l e (gR 1 5 68 30) s m args below meth c D A 2 Q 3 36 [(l0, .inr (4, [.null, .int 0, .int 0, .int 0, .int 0, .ref la_t, .int 0, .int 0, .ref la_h, .null, .null, .null, .int 0, .int 0, .int 0, .int 0, .int 0, .int 0, .int 0, .int 0])), (la_t, .inl (cI, 4, .inl (fun _ => 0))), (la_h, .inl (cI, 16, .inl (fun _ => 0))), (la_u, .inl (cI, 16, .inl (fun _ => 0)))] [(cI, .int)] [(0, .ref l0), (1, .ref ls)] 24 [.ref la_u, .ref l0]
  refine g_putF (C := RX5) (T := TX5) (N := 20) (ty := (.array .int)) (v := .ref la_u) F i_X5 0 rfl rfl 9 (by decide) w_6 rfl tyX5 tyX5_ok nmX5 rfl hnm rfl (by decide +kernel) rfl rfl (Nat.le_of_ble_eq_true rfl) [(l0, .inr (4, [.null, .int 0, .int 0, .int 0, .int 0, .ref la_t, .int 0, .int 0, .ref la_h, .ref la_u, .null, .null, .int 0, .int 0, .int 0, .int 0, .int 0, .int 0, .int 0, .int 0])), (la_t, .inl (cI, 4, .inl (fun _ => 0))), (la_h, .inl (cI, 16, .inl (fun _ => 0))), (la_u, .inl (cI, 16, .inl (fun _ => 0)))] rfl dX5_init_24 ?_
  refine g_aload_n F 0 dX5_init_27 rfl rfl ?_
  refine g_bipush F 16 dX5_init_28 (by decide) ?_
  refine g_newi F 0 rfl w_3 16 (by decide) rfl (by decide) (Nat.le_of_ble_eq_true rfl) (Nat.le_of_ble_eq_true rfl) dX5_init_30 (fun la_o => ?_)
  show gG p l e (gR 1 5 68 30) s m args below meth c D A 2 Q 4 52 [(l0, .inr (4, [.null, .int 0, .int 0, .int 0, .int 0, .ref la_t, .int 0, .int 0, .ref la_h, .ref la_u, .null, .null, .int 0, .int 0, .int 0, .int 0, .int 0, .int 0, .int 0, .int 0])), (la_t, .inl (cI, 4, .inl (fun _ => 0))), (la_h, .inl (cI, 16, .inl (fun _ => 0))), (la_u, .inl (cI, 16, .inl (fun _ => 0))), (la_o, .inl (cI, 16, .inl (fun _ => 0)))] [(cI, .int)] [(0, .ref l0), (1, .ref ls)] 32 [.ref la_o, .ref l0]
  refine g_putF (C := RX5) (T := TX5) (N := 20) (ty := (.array .int)) (v := .ref la_o) F i_X5 0 rfl rfl 10 (by decide) w_7 rfl tyX5 tyX5_ok nmX5 rfl hnm rfl (by decide +kernel) rfl rfl (Nat.le_of_ble_eq_true rfl) [(l0, .inr (4, [.null, .int 0, .int 0, .int 0, .int 0, .ref la_t, .int 0, .int 0, .ref la_h, .ref la_u, .ref la_o, .null, .int 0, .int 0, .int 0, .int 0, .int 0, .int 0, .int 0, .int 0])), (la_t, .inl (cI, 4, .inl (fun _ => 0))), (la_h, .inl (cI, 16, .inl (fun _ => 0))), (la_u, .inl (cI, 16, .inl (fun _ => 0))), (la_o, .inl (cI, 16, .inl (fun _ => 0)))] rfl dX5_init_32 ?_
  refine g_aload_n F 0 dX5_init_35 rfl rfl ?_
  refine g_bipush F 16 dX5_init_36 (by decide) ?_
  refine g_newi F 0 rfl w_3 16 (by decide) rfl (by decide) (Nat.le_of_ble_eq_true rfl) (Nat.le_of_ble_eq_true rfl) dX5_init_38 (fun la_x => ?_)
  show gG p l e (gR 1 5 68 30) s m args below meth c D A 2 Q 5 68 [(l0, .inr (4, [.null, .int 0, .int 0, .int 0, .int 0, .ref la_t, .int 0, .int 0, .ref la_h, .ref la_u, .ref la_o, .null, .int 0, .int 0, .int 0, .int 0, .int 0, .int 0, .int 0, .int 0])), (la_t, .inl (cI, 4, .inl (fun _ => 0))), (la_h, .inl (cI, 16, .inl (fun _ => 0))), (la_u, .inl (cI, 16, .inl (fun _ => 0))), (la_o, .inl (cI, 16, .inl (fun _ => 0))), (la_x, .inl (cI, 16, .inl (fun _ => 0)))] [(cI, .int)] [(0, .ref l0), (1, .ref ls)] 40 [.ref la_x, .ref l0]
  refine g_putF (C := RX5) (T := TX5) (N := 20) (ty := (.array .int)) (v := .ref la_x) F i_X5 0 rfl rfl 11 (by decide) w_8 rfl tyX5 tyX5_ok nmX5 rfl hnm rfl (by decide +kernel) rfl rfl (Nat.le_of_ble_eq_true rfl) [(l0, .inr (4, [.null, .int 0, .int 0, .int 0, .int 0, .ref la_t, .int 0, .int 0, .ref la_h, .ref la_u, .ref la_o, .ref la_x, .int 0, .int 0, .int 0, .int 0, .int 0, .int 0, .int 0, .int 0])), (la_t, .inl (cI, 4, .inl (fun _ => 0))), (la_h, .inl (cI, 16, .inl (fun _ => 0))), (la_u, .inl (cI, 16, .inl (fun _ => 0))), (la_o, .inl (cI, 16, .inl (fun _ => 0))), (la_x, .inl (cI, 16, .inl (fun _ => 0)))] rfl dX5_init_40 ?_
  refine g_aload_n F 0 dX5_init_43 rfl rfl ?_
  refine g_aload_n F 1 dX5_init_44 rfl rfl ?_
  refine g_putF (C := RX5) (T := TX5) (N := 20) (ty := (.object "QuietCut$Shop")) (v := .ref ls) F i_X5 0 rfl rfl 0 (by decide) w_9 rfl tyX5 tyX5_ok nmX5 rfl hnm rfl (by decide +kernel) rfl rfl (Nat.le_of_ble_eq_true rfl) [(l0, .inr (4, [.ref ls, .int 0, .int 0, .int 0, .int 0, .ref la_t, .int 0, .int 0, .ref la_h, .ref la_u, .ref la_o, .ref la_x, .int 0, .int 0, .int 0, .int 0, .int 0, .int 0, .int 0, .int 0])), (la_t, .inl (cI, 4, .inl (fun _ => 0))), (la_h, .inl (cI, 16, .inl (fun _ => 0))), (la_u, .inl (cI, 16, .inl (fun _ => 0))), (la_o, .inl (cI, 16, .inl (fun _ => 0))), (la_x, .inl (cI, 16, .inl (fun _ => 0)))] rfl dX5_init_45 ?_
  exact g_vret F hA hQ hr (la_t, la_h, la_u, la_o, la_x) (trivial) [0, 1, 2, 3, 4, 5] [0] rfl (by decide) rfl rfl dX5_init_48

theorem dX0_init_0 : decode cX0_init 0 = .ok (.aload_n 0, 1) := by decide +kernel
theorem dX0_init_1 : decode cX0_init 1 = .ok (.invokespecial 3, 3) := by decide +kernel
theorem dX0_init_4 : decode cX0_init 4 = .ok (.aload_n 0, 1) := by decide +kernel
theorem dX0_init_5 : decode cX0_init 5 = .ok (.bipush 21, 2) := by decide +kernel
theorem dX0_init_7 : decode cX0_init 7 = .ok (.newarray .int, 2) := by decide +kernel
theorem dX0_init_9 : decode cX0_init 9 = .ok (.putfield 9, 3) := by decide +kernel
theorem dX0_init_12 : decode cX0_init 12 = .ok (.aload_n 0, 1) := by decide +kernel
theorem dX0_init_13 : decode cX0_init 13 = .ok (.sipush 401, 3) := by decide +kernel
theorem dX0_init_16 : decode cX0_init 16 = .ok (.newarray .int, 2) := by decide +kernel
theorem dX0_init_18 : decode cX0_init 18 = .ok (.putfield 15, 3) := by decide +kernel
theorem dX0_init_21 : decode cX0_init 21 = .ok (.aload_n 0, 1) := by decide +kernel
theorem dX0_init_22 : decode cX0_init 22 = .ok (.sipush 401, 3) := by decide +kernel
theorem dX0_init_25 : decode cX0_init 25 = .ok (.newarray .int, 2) := by decide +kernel
theorem dX0_init_27 : decode cX0_init 27 = .ok (.putfield 18, 3) := by decide +kernel
theorem dX0_init_30 : decode cX0_init 30 = .ok (.aload_n 0, 1) := by decide +kernel
theorem dX0_init_31 : decode cX0_init 31 = .ok (.sipush 400, 3) := by decide +kernel
theorem dX0_init_34 : decode cX0_init 34 = .ok (.newarray .int, 2) := by decide +kernel
theorem dX0_init_36 : decode cX0_init 36 = .ok (.putfield 21, 3) := by decide +kernel
theorem dX0_init_39 : decode cX0_init 39 = .ok (.aload_n 0, 1) := by decide +kernel
theorem dX0_init_40 : decode cX0_init 40 = .ok (.aload_n 1, 1) := by decide +kernel
theorem dX0_init_41 : decode cX0_init 41 = .ok (.putfield 24, 3) := by decide +kernel
theorem dX0_init_44 : decode cX0_init 44 = .ok (.aload_n 0, 1) := by decide +kernel
theorem dX0_init_45 : decode cX0_init 45 = .ok (.aload_n 2, 1) := by decide +kernel
theorem dX0_init_46 : decode cX0_init 46 = .ok (.putfield 28, 3) := by decide +kernel
theorem dX0_init_49 : decode cX0_init 49 = .ok (.aload_n 0, 1) := by decide +kernel
theorem dX0_init_50 : decode cX0_init 50 = .ok (.aload_n 3, 1) := by decide +kernel
theorem dX0_init_51 : decode cX0_init 51 = .ok (.putfield 32, 3) := by decide +kernel
theorem dX0_init_54 : decode cX0_init 54 = .ok (.return_, 1) := by decide +kernel
set_option maxHeartbeats 4000000 in
set_option maxRecDepth 100000 in
theorem K_X0_init (l : Launch) (D : va_G) (k0 : Nat) (ks : Nat) (kp : Nat) (kl : Nat) (cI : ClassId) (sz : Nat) : Kv l yX0_init wsX0_init 1 30 4 1223 D [.ref k0, .ref ks, .ref kp, .ref kl] [(k0, .inr (0, [.null, .null, .null, .null, .null, .null, .null, .int 0]))] [(cI, .int)] sz (fun (u : Nat × Nat × Nat × Nat) => True) (fun (u : Nat × Nat × Nat × Nat) => [(k0, .inr (0, [.ref ks, .ref kp, .ref kl, .ref u.1, .ref u.2.1, .ref u.2.2.1, .ref u.2.2.2, .int 0])), (u.1, .inl (cI, 21, .inl (fun _ => 0))), (u.2.1, .inl (cI, 401, .inl (fun _ => 0))), (u.2.2.1, .inl (cI, 401, .inl (fun _ => 0))), (u.2.2.2, .inl (cI, 400, .inl (fun _ => 0)))]) (fun (_ : Nat × Nat × Nat × Nat) => [(cI, .int)]) := by
  unfold Kv
  refine g_ofW (cc := cX0_init) (lv := [(0, .ref k0), (1, .ref ks), (2, .ref kp), (3, .ref kl)]) (by decide) rfl (Nat.le_of_ble_eq_true rfl) rfl ?_
  intro p e s m args below meth c A Q hA hQ F hr hnm
  have hts := F.2.2.2.2.1
  have w_0 : (Cond.methodLink RX0 3 objectInit).before args s = true := hts _ (List.mem_of_getElem? (i := 1) rfl)
  have w_1 : (Cond.instanceMethod objectInit).before args s = true := hts _ (List.mem_of_getElem? (i := 2) rfl)
  have w_2 : (Cond.code objectInit ⟨#[0xb1]⟩ 1 none).before args s = true := hts _ (List.mem_of_getElem? (i := 3) rfl)
  have w_3 : (Cond.arrayClass .int).before args s = true := hts _ (List.mem_of_getElem? (i := 4) rfl)
  have w_4 : (Cond.fieldLink RX0 9 "QuietCut$Chooser" "speedOf" "[I").before args s = true := hts _ (List.mem_of_getElem? (i := 5) rfl)
  have i_X0 : ∀ w ∈ u_ws RX0 TX0 8, w ∈ wsX0_init := fun _ h => List.mem_cons_of_mem _ (List.mem_append_right _ h)
  have w_5 : (Cond.fieldLink RX0 15 "QuietCut$Chooser" "leastTime" "[I").before args s = true := hts _ (List.mem_of_getElem? (i := 6) rfl)
  have w_6 : (Cond.fieldLink RX0 18 "QuietCut$Chooser" "fewest" "[I").before args s = true := hts _ (List.mem_of_getElem? (i := 7) rfl)
  have w_7 : (Cond.fieldLink RX0 21 "QuietCut$Chooser" "planRow" "[I").before args s = true := hts _ (List.mem_of_getElem? (i := 8) rfl)
  have w_8 : (Cond.fieldLink RX0 24 "QuietCut$Chooser" "shop" "LQuietCut$Shop;").before args s = true := hts _ (List.mem_of_getElem? (i := 9) rfl)
  have w_9 : (Cond.fieldLink RX0 28 "QuietCut$Chooser" "piece" "LQuietCut$Piece;").before args s = true := hts _ (List.mem_of_getElem? (i := 10) rfl)
  have w_10 : (Cond.fieldLink RX0 32 "QuietCut$Chooser" "lathe" "LQuietCut$Lathe;").before args s = true := hts _ (List.mem_of_getElem? (i := 11) rfl)
  refine g_aload_n F 0 dX0_init_0 rfl rfl ?_
  refine g_objInit F w_0 w_1 w_2 dX0_init_1 (Nat.le_of_ble_eq_true rfl) (Nat.le_of_ble_eq_true rfl) ?_
  refine g_aload_n F 0 dX0_init_4 rfl rfl ?_
  refine g_bipush F 21 dX0_init_5 (by decide) ?_
  refine g_newi F 0 rfl w_3 21 (by decide) rfl (by decide) (Nat.le_of_ble_eq_true rfl) (Nat.le_of_ble_eq_true rfl) dX0_init_7 (fun ch_s => ?_)
  show gG p l e (gR 1 4 1223 30) s m args below meth c D A 4 Q 1 21 [(k0, .inr (0, [.null, .null, .null, .null, .null, .null, .null, .int 0])), (ch_s, .inl (cI, 21, .inl (fun _ => 0)))] [(cI, .int)] [(0, .ref k0), (1, .ref ks), (2, .ref kp), (3, .ref kl)] 9 [.ref ch_s, .ref k0]
  refine g_putF (C := RX0) (T := TX0) (N := 8) (ty := (.array .int)) (v := .ref ch_s) F i_X0 0 rfl rfl 3 (by decide) w_4 rfl tyX0 tyX0_ok nmX0 rfl hnm rfl (by decide +kernel) rfl rfl (Nat.le_of_ble_eq_true rfl) [(k0, .inr (0, [.null, .null, .null, .ref ch_s, .null, .null, .null, .int 0])), (ch_s, .inl (cI, 21, .inl (fun _ => 0)))] rfl dX0_init_9 ?_
  refine g_aload_n F 0 dX0_init_12 rfl rfl ?_
  refine g_sipush F 401 dX0_init_13 (by decide) ?_
  refine g_newi F 0 rfl w_3 401 (by decide) rfl (by decide) (Nat.le_of_ble_eq_true rfl) (Nat.le_of_ble_eq_true rfl) dX0_init_16 (fun ch_t => ?_)
  show gG p l e (gR 1 4 1223 30) s m args below meth c D A 4 Q 2 422 [(k0, .inr (0, [.null, .null, .null, .ref ch_s, .null, .null, .null, .int 0])), (ch_s, .inl (cI, 21, .inl (fun _ => 0))), (ch_t, .inl (cI, 401, .inl (fun _ => 0)))] [(cI, .int)] [(0, .ref k0), (1, .ref ks), (2, .ref kp), (3, .ref kl)] 18 [.ref ch_t, .ref k0]
  refine g_putF (C := RX0) (T := TX0) (N := 8) (ty := (.array .int)) (v := .ref ch_t) F i_X0 0 rfl rfl 4 (by decide) w_5 rfl tyX0 tyX0_ok nmX0 rfl hnm rfl (by decide +kernel) rfl rfl (Nat.le_of_ble_eq_true rfl) [(k0, .inr (0, [.null, .null, .null, .ref ch_s, .ref ch_t, .null, .null, .int 0])), (ch_s, .inl (cI, 21, .inl (fun _ => 0))), (ch_t, .inl (cI, 401, .inl (fun _ => 0)))] rfl dX0_init_18 ?_
  refine g_aload_n F 0 dX0_init_21 rfl rfl ?_
  refine g_sipush F 401 dX0_init_22 (by decide) ?_
  refine g_newi F 0 rfl w_3 401 (by decide) rfl (by decide) (Nat.le_of_ble_eq_true rfl) (Nat.le_of_ble_eq_true rfl) dX0_init_25 (fun ch_f => ?_)
  show gG p l e (gR 1 4 1223 30) s m args below meth c D A 4 Q 3 823 [(k0, .inr (0, [.null, .null, .null, .ref ch_s, .ref ch_t, .null, .null, .int 0])), (ch_s, .inl (cI, 21, .inl (fun _ => 0))), (ch_t, .inl (cI, 401, .inl (fun _ => 0))), (ch_f, .inl (cI, 401, .inl (fun _ => 0)))] [(cI, .int)] [(0, .ref k0), (1, .ref ks), (2, .ref kp), (3, .ref kl)] 27 [.ref ch_f, .ref k0]
  refine g_putF (C := RX0) (T := TX0) (N := 8) (ty := (.array .int)) (v := .ref ch_f) F i_X0 0 rfl rfl 5 (by decide) w_6 rfl tyX0 tyX0_ok nmX0 rfl hnm rfl (by decide +kernel) rfl rfl (Nat.le_of_ble_eq_true rfl) [(k0, .inr (0, [.null, .null, .null, .ref ch_s, .ref ch_t, .ref ch_f, .null, .int 0])), (ch_s, .inl (cI, 21, .inl (fun _ => 0))), (ch_t, .inl (cI, 401, .inl (fun _ => 0))), (ch_f, .inl (cI, 401, .inl (fun _ => 0)))] rfl dX0_init_27 ?_
  refine g_aload_n F 0 dX0_init_30 rfl rfl ?_
  refine g_sipush F 400 dX0_init_31 (by decide) ?_
  refine g_newi F 0 rfl w_3 400 (by decide) rfl (by decide) (Nat.le_of_ble_eq_true rfl) (Nat.le_of_ble_eq_true rfl) dX0_init_34 (fun ch_p => ?_)
  show gG p l e (gR 1 4 1223 30) s m args below meth c D A 4 Q 4 1223 [(k0, .inr (0, [.null, .null, .null, .ref ch_s, .ref ch_t, .ref ch_f, .null, .int 0])), (ch_s, .inl (cI, 21, .inl (fun _ => 0))), (ch_t, .inl (cI, 401, .inl (fun _ => 0))), (ch_f, .inl (cI, 401, .inl (fun _ => 0))), (ch_p, .inl (cI, 400, .inl (fun _ => 0)))] [(cI, .int)] [(0, .ref k0), (1, .ref ks), (2, .ref kp), (3, .ref kl)] 36 [.ref ch_p, .ref k0]
  refine g_putF (C := RX0) (T := TX0) (N := 8) (ty := (.array .int)) (v := .ref ch_p) F i_X0 0 rfl rfl 6 (by decide) w_7 rfl tyX0 tyX0_ok nmX0 rfl hnm rfl (by decide +kernel) rfl rfl (Nat.le_of_ble_eq_true rfl) [(k0, .inr (0, [.null, .null, .null, .ref ch_s, .ref ch_t, .ref ch_f, .ref ch_p, .int 0])), (ch_s, .inl (cI, 21, .inl (fun _ => 0))), (ch_t, .inl (cI, 401, .inl (fun _ => 0))), (ch_f, .inl (cI, 401, .inl (fun _ => 0))), (ch_p, .inl (cI, 400, .inl (fun _ => 0)))] rfl dX0_init_36 ?_
  refine g_aload_n F 0 dX0_init_39 rfl rfl ?_
  refine g_aload_n F 1 dX0_init_40 rfl rfl ?_
  refine g_putF (C := RX0) (T := TX0) (N := 8) (ty := (.object "QuietCut$Shop")) (v := .ref ks) F i_X0 0 rfl rfl 0 (by decide) w_8 rfl tyX0 tyX0_ok nmX0 rfl hnm rfl (by decide +kernel) rfl rfl (Nat.le_of_ble_eq_true rfl) [(k0, .inr (0, [.ref ks, .null, .null, .ref ch_s, .ref ch_t, .ref ch_f, .ref ch_p, .int 0])), (ch_s, .inl (cI, 21, .inl (fun _ => 0))), (ch_t, .inl (cI, 401, .inl (fun _ => 0))), (ch_f, .inl (cI, 401, .inl (fun _ => 0))), (ch_p, .inl (cI, 400, .inl (fun _ => 0)))] rfl dX0_init_41 ?_
  refine g_aload_n F 0 dX0_init_44 rfl rfl ?_
  refine g_aload_n F 2 dX0_init_45 rfl rfl ?_
  refine g_putF (C := RX0) (T := TX0) (N := 8) (ty := (.object "QuietCut$Piece")) (v := .ref kp) F i_X0 0 rfl rfl 1 (by decide) w_9 rfl tyX0 tyX0_ok nmX0 rfl hnm rfl (by decide +kernel) rfl rfl (Nat.le_of_ble_eq_true rfl) [(k0, .inr (0, [.ref ks, .ref kp, .null, .ref ch_s, .ref ch_t, .ref ch_f, .ref ch_p, .int 0])), (ch_s, .inl (cI, 21, .inl (fun _ => 0))), (ch_t, .inl (cI, 401, .inl (fun _ => 0))), (ch_f, .inl (cI, 401, .inl (fun _ => 0))), (ch_p, .inl (cI, 400, .inl (fun _ => 0)))] rfl dX0_init_46 ?_
  refine g_aload_n F 0 dX0_init_49 rfl rfl ?_
  refine g_aload_n F 3 dX0_init_50 rfl rfl ?_
  refine g_putF (C := RX0) (T := TX0) (N := 8) (ty := (.object "QuietCut$Lathe")) (v := .ref kl) F i_X0 0 rfl rfl 2 (by decide) w_10 rfl tyX0 tyX0_ok nmX0 rfl hnm rfl (by decide +kernel) rfl rfl (Nat.le_of_ble_eq_true rfl) [(k0, .inr (0, [.ref ks, .ref kp, .ref kl, .ref ch_s, .ref ch_t, .ref ch_f, .ref ch_p, .int 0])), (ch_s, .inl (cI, 21, .inl (fun _ => 0))), (ch_t, .inl (cI, 401, .inl (fun _ => 0))), (ch_f, .inl (cI, 401, .inl (fun _ => 0))), (ch_p, .inl (cI, 400, .inl (fun _ => 0)))] rfl dX0_init_51 ?_
  exact g_vret F hA hQ hr (ch_s, ch_t, ch_f, ch_p) (trivial) [0, 1, 2, 3, 4] [0] rfl (by decide) rfl rfl dX0_init_54

theorem dX4_init_0 : decode cX4_init 0 = .ok (.aload_n 0, 1) := by decide +kernel
theorem dX4_init_1 : decode cX4_init 1 = .ok (.invokespecial 3, 3) := by decide +kernel
theorem dX4_init_4 : decode cX4_init 4 = .ok (.aload_n 0, 1) := by decide +kernel
theorem dX4_init_5 : decode cX4_init 5 = .ok (.iconst 4, 1) := by decide +kernel
theorem dX4_init_6 : decode cX4_init 6 = .ok (.iconst 5, 1) := by decide +kernel
theorem dX4_init_7 : decode cX4_init 7 = .ok (.multianewarray 11 2, 4) := by decide +kernel
theorem dX4_init_11 : decode cX4_init 11 = .ok (.putfield 13, 3) := by decide +kernel
theorem dX4_init_14 : decode cX4_init 14 = .ok (.aload_n 0, 1) := by decide +kernel
theorem dX4_init_15 : decode cX4_init 15 = .ok (.bipush 6, 2) := by decide +kernel
theorem dX4_init_17 : decode cX4_init 17 = .ok (.bipush 96, 2) := by decide +kernel
theorem dX4_init_19 : decode cX4_init 19 = .ok (.multianewarray 11 2, 4) := by decide +kernel
theorem dX4_init_23 : decode cX4_init 23 = .ok (.putfield 16, 3) := by decide +kernel
theorem dX4_init_26 : decode cX4_init 26 = .ok (.aload_n 0, 1) := by decide +kernel
theorem dX4_init_27 : decode cX4_init 27 = .ok (.bipush 6, 2) := by decide +kernel
theorem dX4_init_29 : decode cX4_init 29 = .ok (.newarray .int, 2) := by decide +kernel
theorem dX4_init_31 : decode cX4_init 31 = .ok (.putfield 19, 3) := by decide +kernel
theorem dX4_init_34 : decode cX4_init 34 = .ok (.aload_n 0, 1) := by decide +kernel
theorem dX4_init_35 : decode cX4_init 35 = .ok (.iconst 5, 1) := by decide +kernel
theorem dX4_init_36 : decode cX4_init 36 = .ok (.newarray .int, 2) := by decide +kernel
theorem dX4_init_38 : decode cX4_init 38 = .ok (.putfield 23, 3) := by decide +kernel
theorem dX4_init_41 : decode cX4_init 41 = .ok (.aload_n 0, 1) := by decide +kernel
theorem dX4_init_42 : decode cX4_init 42 = .ok (.iconst 5, 1) := by decide +kernel
theorem dX4_init_43 : decode cX4_init 43 = .ok (.newarray .int, 2) := by decide +kernel
theorem dX4_init_45 : decode cX4_init 45 = .ok (.putfield 26, 3) := by decide +kernel
theorem dX4_init_48 : decode cX4_init 48 = .ok (.aload_n 0, 1) := by decide +kernel
theorem dX4_init_49 : decode cX4_init 49 = .ok (.aload_n 1, 1) := by decide +kernel
theorem dX4_init_50 : decode cX4_init 50 = .ok (.putfield 29, 3) := by decide +kernel
theorem dX4_init_53 : decode cX4_init 53 = .ok (.aload_n 0, 1) := by decide +kernel
theorem dX4_init_54 : decode cX4_init 54 = .ok (.aload_n 2, 1) := by decide +kernel
theorem dX4_init_55 : decode cX4_init 55 = .ok (.putfield 33, 3) := by decide +kernel
theorem dX4_init_58 : decode cX4_init 58 = .ok (.return_, 1) := by decide +kernel
set_option maxHeartbeats 4000000 in
set_option maxRecDepth 100000 in
theorem K_X4_init (l : Launch) (D : va_G) (tz : Nat) (j0 : Nat) (jp : Nat) (jl : Nat) (cI : ClassId) (cII : ClassId) (sz : Nat) : Kvz l yX4_init wsX4_init 1 30 15 622 D tz [.ref j0, .ref jp, .ref jl] [(j0, .inr (3, [.null, .null, .null, .int 0, .null, .null, .null, .null, .int 0, .int 0, .int 0, .int 0]))] [(cI, .int), (cII, .array .int)] sz (fun (u : Nat × Nat × Nat × Nat × Nat × (Nat → Nat) × (Nat → Nat)) => True) (fun (u : Nat × Nat × Nat × Nat × Nat × (Nat → Nat) × (Nat → Nat)) => [(j0, .inr (3, [.ref jp, .ref jl, .ref u.1, .int 0, .ref u.2.1, .ref u.2.2.1, .ref u.2.2.2.1, .ref u.2.2.2.2.1, .int 0, .int 0, .int 0, .int 0])), (u.1, .inl (cII, 4, .inr (.inr (.inr (.inr (fun i => if i < 4 then some (u.2.2.2.2.2.1 i) else none)))))), ((u.2.2.2.2.2.1 0), .inl (cI, 5, .inl (fun _ => 0))), ((u.2.2.2.2.2.1 1), .inl (cI, 5, .inl (fun _ => 0))), ((u.2.2.2.2.2.1 2), .inl (cI, 5, .inl (fun _ => 0))), ((u.2.2.2.2.2.1 3), .inl (cI, 5, .inl (fun _ => 0))), (u.2.1, .inl (cII, 6, .inr (.inr (.inr (.inr (fun i => if i < 6 then some (u.2.2.2.2.2.2 i) else none)))))), ((u.2.2.2.2.2.2 0), .inl (cI, 96, .inl (fun _ => 0))), ((u.2.2.2.2.2.2 1), .inl (cI, 96, .inl (fun _ => 0))), ((u.2.2.2.2.2.2 2), .inl (cI, 96, .inl (fun _ => 0))), ((u.2.2.2.2.2.2 3), .inl (cI, 96, .inl (fun _ => 0))), ((u.2.2.2.2.2.2 4), .inl (cI, 96, .inl (fun _ => 0))), ((u.2.2.2.2.2.2 5), .inl (cI, 96, .inl (fun _ => 0))), (u.2.2.1, .inl (cI, 6, .inl (fun _ => 0))), (u.2.2.2.1, .inl (cI, 5, .inl (fun _ => 0))), (u.2.2.2.2.1, .inl (cI, 5, .inl (fun _ => 0)))]) (fun (_ : Nat × Nat × Nat × Nat × Nat × (Nat → Nat) × (Nat → Nat)) => [(cI, .int), (cII, .array .int)]) := by
  unfold Kvz
  refine g_ofWz (cc := cX4_init) (lv := [(0, .ref j0), (1, .ref jp), (2, .ref jl)]) (by decide) rfl (Nat.le_of_ble_eq_true rfl) rfl ?_
  intro p e s m args below meth c A Q hA hQ Z F hr hnm
  have hts := F.2.2.2.2.1
  have w_0 : (Cond.methodLink RX4 3 objectInit).before args s = true := hts _ (List.mem_of_getElem? (i := 1) rfl)
  have w_1 : (Cond.instanceMethod objectInit).before args s = true := hts _ (List.mem_of_getElem? (i := 2) rfl)
  have w_2 : (Cond.code objectInit ⟨#[0xb1]⟩ 1 none).before args s = true := hts _ (List.mem_of_getElem? (i := 3) rfl)
  have w_3 : (Cond.classLink RX4 11 "[[I").before args s = true := hts _ (List.mem_of_getElem? (i := 4) rfl)
  have w_4 : (Cond.arrayClass .int).before args s = true := hts _ (List.mem_of_getElem? (i := 5) rfl)
  have w_5 : (Cond.fieldLink RX4 13 "QuietCut$Jobs" "jobs" "[[I").before args s = true := hts _ (List.mem_of_getElem? (i := 6) rfl)
  have i_X4 : ∀ w ∈ u_ws RX4 TX4 12, w ∈ wsX4_init := fun _ h => List.mem_cons_of_mem _ (List.mem_append_right _ h)
  have w_6 : (Cond.fieldLink RX4 16 "QuietCut$Jobs" "heights" "[[I").before args s = true := hts _ (List.mem_of_getElem? (i := 7) rfl)
  have w_7 : (Cond.fieldLink RX4 19 "QuietCut$Jobs" "wears" "[I").before args s = true := hts _ (List.mem_of_getElem? (i := 8) rfl)
  have w_8 : (Cond.fieldLink RX4 23 "QuietCut$Jobs" "row" "[I").before args s = true := hts _ (List.mem_of_getElem? (i := 9) rfl)
  have w_9 : (Cond.fieldLink RX4 26 "QuietCut$Jobs" "bestRow" "[I").before args s = true := hts _ (List.mem_of_getElem? (i := 10) rfl)
  have w_10 : (Cond.fieldLink RX4 29 "QuietCut$Jobs" "piece" "LQuietCut$Piece;").before args s = true := hts _ (List.mem_of_getElem? (i := 11) rfl)
  have w_11 : (Cond.fieldLink RX4 33 "QuietCut$Jobs" "lathe" "LQuietCut$Lathe;").before args s = true := hts _ (List.mem_of_getElem? (i := 12) rfl)
  refine g_aload_n F 0 dX4_init_0 rfl rfl ?_
  refine g_objInit F w_0 w_1 w_2 dX4_init_1 (Nat.le_of_ble_eq_true rfl) (Nat.le_of_ble_eq_true rfl) ?_
  refine g_aload_n F 0 dX4_init_4 rfl rfl ?_
  refine g_iconst F 4 dX4_init_5 (by decide) ?_
  refine g_iconst F 5 dX4_init_6 (by decide) ?_
  refine g_mna F 0 1 rfl rfl (cn := "[[I") (by decide) w_3 Z w_4 4 5 4 (by decide) (by decide) (by decide) rfl rfl (by decide) (by decide) (by decide) (Nat.le_of_ble_eq_true rfl) (Nat.le_of_ble_eq_true rfl) dX4_init_7 (fun jj jjr => ?_)
  show gG p l e (gR 1 15 622 30) s m args below meth c D A 3 Q 5 24 [(j0, .inr (3, [.null, .null, .null, .int 0, .null, .null, .null, .null, .int 0, .int 0, .int 0, .int 0])), (jj, .inl (cII, 4, .inr (.inr (.inr (.inr (fun i => if i < 4 then some (jjr i) else none)))))), ((jjr 0), .inl (cI, 5, .inl (fun _ => 0))), ((jjr 1), .inl (cI, 5, .inl (fun _ => 0))), ((jjr 2), .inl (cI, 5, .inl (fun _ => 0))), ((jjr 3), .inl (cI, 5, .inl (fun _ => 0)))] [(cI, .int), (cII, .array .int)] [(0, .ref j0), (1, .ref jp), (2, .ref jl)] 11 [.ref jj, .ref j0]
  refine g_putF (C := RX4) (T := TX4) (N := 12) (ty := (.array (.array .int))) (v := .ref jj) F i_X4 0 rfl rfl 2 (by decide) w_5 rfl tyX4 tyX4_ok nmX4 rfl hnm rfl (by decide +kernel) rfl rfl (Nat.le_of_ble_eq_true rfl) [(j0, .inr (3, [.null, .null, .ref jj, .int 0, .null, .null, .null, .null, .int 0, .int 0, .int 0, .int 0])), (jj, .inl (cII, 4, .inr (.inr (.inr (.inr (fun i => if i < 4 then some (jjr i) else none)))))), ((jjr 0), .inl (cI, 5, .inl (fun _ => 0))), ((jjr 1), .inl (cI, 5, .inl (fun _ => 0))), ((jjr 2), .inl (cI, 5, .inl (fun _ => 0))), ((jjr 3), .inl (cI, 5, .inl (fun _ => 0)))] rfl dX4_init_11 ?_
  refine g_aload_n F 0 dX4_init_14 rfl rfl ?_
  refine g_bipush F 6 dX4_init_15 (by decide) ?_
  refine g_bipush F 96 dX4_init_17 (by decide) ?_
  refine g_mna F 0 1 rfl rfl (cn := "[[I") (by decide) w_3 Z w_4 6 96 6 (by decide) (by decide) (by decide) rfl rfl (by decide) (by decide) (by decide) (Nat.le_of_ble_eq_true rfl) (Nat.le_of_ble_eq_true rfl) dX4_init_19 (fun jh jhr => ?_)
  show gG p l e (gR 1 15 622 30) s m args below meth c D A 3 Q 12 606 [(j0, .inr (3, [.null, .null, .ref jj, .int 0, .null, .null, .null, .null, .int 0, .int 0, .int 0, .int 0])), (jj, .inl (cII, 4, .inr (.inr (.inr (.inr (fun i => if i < 4 then some (jjr i) else none)))))), ((jjr 0), .inl (cI, 5, .inl (fun _ => 0))), ((jjr 1), .inl (cI, 5, .inl (fun _ => 0))), ((jjr 2), .inl (cI, 5, .inl (fun _ => 0))), ((jjr 3), .inl (cI, 5, .inl (fun _ => 0))), (jh, .inl (cII, 6, .inr (.inr (.inr (.inr (fun i => if i < 6 then some (jhr i) else none)))))), ((jhr 0), .inl (cI, 96, .inl (fun _ => 0))), ((jhr 1), .inl (cI, 96, .inl (fun _ => 0))), ((jhr 2), .inl (cI, 96, .inl (fun _ => 0))), ((jhr 3), .inl (cI, 96, .inl (fun _ => 0))), ((jhr 4), .inl (cI, 96, .inl (fun _ => 0))), ((jhr 5), .inl (cI, 96, .inl (fun _ => 0)))] [(cI, .int), (cII, .array .int)] [(0, .ref j0), (1, .ref jp), (2, .ref jl)] 23 [.ref jh, .ref j0]
  refine g_putF (C := RX4) (T := TX4) (N := 12) (ty := (.array (.array .int))) (v := .ref jh) F i_X4 0 rfl rfl 4 (by decide) w_6 rfl tyX4 tyX4_ok nmX4 rfl hnm rfl (by decide +kernel) rfl rfl (Nat.le_of_ble_eq_true rfl) [(j0, .inr (3, [.null, .null, .ref jj, .int 0, .ref jh, .null, .null, .null, .int 0, .int 0, .int 0, .int 0])), (jj, .inl (cII, 4, .inr (.inr (.inr (.inr (fun i => if i < 4 then some (jjr i) else none)))))), ((jjr 0), .inl (cI, 5, .inl (fun _ => 0))), ((jjr 1), .inl (cI, 5, .inl (fun _ => 0))), ((jjr 2), .inl (cI, 5, .inl (fun _ => 0))), ((jjr 3), .inl (cI, 5, .inl (fun _ => 0))), (jh, .inl (cII, 6, .inr (.inr (.inr (.inr (fun i => if i < 6 then some (jhr i) else none)))))), ((jhr 0), .inl (cI, 96, .inl (fun _ => 0))), ((jhr 1), .inl (cI, 96, .inl (fun _ => 0))), ((jhr 2), .inl (cI, 96, .inl (fun _ => 0))), ((jhr 3), .inl (cI, 96, .inl (fun _ => 0))), ((jhr 4), .inl (cI, 96, .inl (fun _ => 0))), ((jhr 5), .inl (cI, 96, .inl (fun _ => 0)))] rfl dX4_init_23 ?_
  refine g_aload_n F 0 dX4_init_26 rfl rfl ?_
  refine g_bipush F 6 dX4_init_27 (by decide) ?_
  refine g_newi F 0 rfl w_4 6 (by decide) rfl (by decide) (Nat.le_of_ble_eq_true rfl) (Nat.le_of_ble_eq_true rfl) dX4_init_29 (fun jw => ?_)
  show gG p l e (gR 1 15 622 30) s m args below meth c D A 3 Q 13 612 [(j0, .inr (3, [.null, .null, .ref jj, .int 0, .ref jh, .null, .null, .null, .int 0, .int 0, .int 0, .int 0])), (jj, .inl (cII, 4, .inr (.inr (.inr (.inr (fun i => if i < 4 then some (jjr i) else none)))))), ((jjr 0), .inl (cI, 5, .inl (fun _ => 0))), ((jjr 1), .inl (cI, 5, .inl (fun _ => 0))), ((jjr 2), .inl (cI, 5, .inl (fun _ => 0))), ((jjr 3), .inl (cI, 5, .inl (fun _ => 0))), (jh, .inl (cII, 6, .inr (.inr (.inr (.inr (fun i => if i < 6 then some (jhr i) else none)))))), ((jhr 0), .inl (cI, 96, .inl (fun _ => 0))), ((jhr 1), .inl (cI, 96, .inl (fun _ => 0))), ((jhr 2), .inl (cI, 96, .inl (fun _ => 0))), ((jhr 3), .inl (cI, 96, .inl (fun _ => 0))), ((jhr 4), .inl (cI, 96, .inl (fun _ => 0))), ((jhr 5), .inl (cI, 96, .inl (fun _ => 0))), (jw, .inl (cI, 6, .inl (fun _ => 0)))] [(cI, .int), (cII, .array .int)] [(0, .ref j0), (1, .ref jp), (2, .ref jl)] 31 [.ref jw, .ref j0]
  refine g_putF (C := RX4) (T := TX4) (N := 12) (ty := (.array .int)) (v := .ref jw) F i_X4 0 rfl rfl 5 (by decide) w_7 rfl tyX4 tyX4_ok nmX4 rfl hnm rfl (by decide +kernel) rfl rfl (Nat.le_of_ble_eq_true rfl) [(j0, .inr (3, [.null, .null, .ref jj, .int 0, .ref jh, .ref jw, .null, .null, .int 0, .int 0, .int 0, .int 0])), (jj, .inl (cII, 4, .inr (.inr (.inr (.inr (fun i => if i < 4 then some (jjr i) else none)))))), ((jjr 0), .inl (cI, 5, .inl (fun _ => 0))), ((jjr 1), .inl (cI, 5, .inl (fun _ => 0))), ((jjr 2), .inl (cI, 5, .inl (fun _ => 0))), ((jjr 3), .inl (cI, 5, .inl (fun _ => 0))), (jh, .inl (cII, 6, .inr (.inr (.inr (.inr (fun i => if i < 6 then some (jhr i) else none)))))), ((jhr 0), .inl (cI, 96, .inl (fun _ => 0))), ((jhr 1), .inl (cI, 96, .inl (fun _ => 0))), ((jhr 2), .inl (cI, 96, .inl (fun _ => 0))), ((jhr 3), .inl (cI, 96, .inl (fun _ => 0))), ((jhr 4), .inl (cI, 96, .inl (fun _ => 0))), ((jhr 5), .inl (cI, 96, .inl (fun _ => 0))), (jw, .inl (cI, 6, .inl (fun _ => 0)))] rfl dX4_init_31 ?_
  refine g_aload_n F 0 dX4_init_34 rfl rfl ?_
  refine g_iconst F 5 dX4_init_35 (by decide) ?_
  refine g_newi F 0 rfl w_4 5 (by decide) rfl (by decide) (Nat.le_of_ble_eq_true rfl) (Nat.le_of_ble_eq_true rfl) dX4_init_36 (fun jo => ?_)
  show gG p l e (gR 1 15 622 30) s m args below meth c D A 3 Q 14 617 [(j0, .inr (3, [.null, .null, .ref jj, .int 0, .ref jh, .ref jw, .null, .null, .int 0, .int 0, .int 0, .int 0])), (jj, .inl (cII, 4, .inr (.inr (.inr (.inr (fun i => if i < 4 then some (jjr i) else none)))))), ((jjr 0), .inl (cI, 5, .inl (fun _ => 0))), ((jjr 1), .inl (cI, 5, .inl (fun _ => 0))), ((jjr 2), .inl (cI, 5, .inl (fun _ => 0))), ((jjr 3), .inl (cI, 5, .inl (fun _ => 0))), (jh, .inl (cII, 6, .inr (.inr (.inr (.inr (fun i => if i < 6 then some (jhr i) else none)))))), ((jhr 0), .inl (cI, 96, .inl (fun _ => 0))), ((jhr 1), .inl (cI, 96, .inl (fun _ => 0))), ((jhr 2), .inl (cI, 96, .inl (fun _ => 0))), ((jhr 3), .inl (cI, 96, .inl (fun _ => 0))), ((jhr 4), .inl (cI, 96, .inl (fun _ => 0))), ((jhr 5), .inl (cI, 96, .inl (fun _ => 0))), (jw, .inl (cI, 6, .inl (fun _ => 0))), (jo, .inl (cI, 5, .inl (fun _ => 0)))] [(cI, .int), (cII, .array .int)] [(0, .ref j0), (1, .ref jp), (2, .ref jl)] 38 [.ref jo, .ref j0]
  refine g_putF (C := RX4) (T := TX4) (N := 12) (ty := (.array .int)) (v := .ref jo) F i_X4 0 rfl rfl 6 (by decide) w_8 rfl tyX4 tyX4_ok nmX4 rfl hnm rfl (by decide +kernel) rfl rfl (Nat.le_of_ble_eq_true rfl) [(j0, .inr (3, [.null, .null, .ref jj, .int 0, .ref jh, .ref jw, .ref jo, .null, .int 0, .int 0, .int 0, .int 0])), (jj, .inl (cII, 4, .inr (.inr (.inr (.inr (fun i => if i < 4 then some (jjr i) else none)))))), ((jjr 0), .inl (cI, 5, .inl (fun _ => 0))), ((jjr 1), .inl (cI, 5, .inl (fun _ => 0))), ((jjr 2), .inl (cI, 5, .inl (fun _ => 0))), ((jjr 3), .inl (cI, 5, .inl (fun _ => 0))), (jh, .inl (cII, 6, .inr (.inr (.inr (.inr (fun i => if i < 6 then some (jhr i) else none)))))), ((jhr 0), .inl (cI, 96, .inl (fun _ => 0))), ((jhr 1), .inl (cI, 96, .inl (fun _ => 0))), ((jhr 2), .inl (cI, 96, .inl (fun _ => 0))), ((jhr 3), .inl (cI, 96, .inl (fun _ => 0))), ((jhr 4), .inl (cI, 96, .inl (fun _ => 0))), ((jhr 5), .inl (cI, 96, .inl (fun _ => 0))), (jw, .inl (cI, 6, .inl (fun _ => 0))), (jo, .inl (cI, 5, .inl (fun _ => 0)))] rfl dX4_init_38 ?_
  refine g_aload_n F 0 dX4_init_41 rfl rfl ?_
  refine g_iconst F 5 dX4_init_42 (by decide) ?_
  refine g_newi F 0 rfl w_4 5 (by decide) rfl (by decide) (Nat.le_of_ble_eq_true rfl) (Nat.le_of_ble_eq_true rfl) dX4_init_43 (fun jb => ?_)
  show gG p l e (gR 1 15 622 30) s m args below meth c D A 3 Q 15 622 [(j0, .inr (3, [.null, .null, .ref jj, .int 0, .ref jh, .ref jw, .ref jo, .null, .int 0, .int 0, .int 0, .int 0])), (jj, .inl (cII, 4, .inr (.inr (.inr (.inr (fun i => if i < 4 then some (jjr i) else none)))))), ((jjr 0), .inl (cI, 5, .inl (fun _ => 0))), ((jjr 1), .inl (cI, 5, .inl (fun _ => 0))), ((jjr 2), .inl (cI, 5, .inl (fun _ => 0))), ((jjr 3), .inl (cI, 5, .inl (fun _ => 0))), (jh, .inl (cII, 6, .inr (.inr (.inr (.inr (fun i => if i < 6 then some (jhr i) else none)))))), ((jhr 0), .inl (cI, 96, .inl (fun _ => 0))), ((jhr 1), .inl (cI, 96, .inl (fun _ => 0))), ((jhr 2), .inl (cI, 96, .inl (fun _ => 0))), ((jhr 3), .inl (cI, 96, .inl (fun _ => 0))), ((jhr 4), .inl (cI, 96, .inl (fun _ => 0))), ((jhr 5), .inl (cI, 96, .inl (fun _ => 0))), (jw, .inl (cI, 6, .inl (fun _ => 0))), (jo, .inl (cI, 5, .inl (fun _ => 0))), (jb, .inl (cI, 5, .inl (fun _ => 0)))] [(cI, .int), (cII, .array .int)] [(0, .ref j0), (1, .ref jp), (2, .ref jl)] 45 [.ref jb, .ref j0]
  refine g_putF (C := RX4) (T := TX4) (N := 12) (ty := (.array .int)) (v := .ref jb) F i_X4 0 rfl rfl 7 (by decide) w_9 rfl tyX4 tyX4_ok nmX4 rfl hnm rfl (by decide +kernel) rfl rfl (Nat.le_of_ble_eq_true rfl) [(j0, .inr (3, [.null, .null, .ref jj, .int 0, .ref jh, .ref jw, .ref jo, .ref jb, .int 0, .int 0, .int 0, .int 0])), (jj, .inl (cII, 4, .inr (.inr (.inr (.inr (fun i => if i < 4 then some (jjr i) else none)))))), ((jjr 0), .inl (cI, 5, .inl (fun _ => 0))), ((jjr 1), .inl (cI, 5, .inl (fun _ => 0))), ((jjr 2), .inl (cI, 5, .inl (fun _ => 0))), ((jjr 3), .inl (cI, 5, .inl (fun _ => 0))), (jh, .inl (cII, 6, .inr (.inr (.inr (.inr (fun i => if i < 6 then some (jhr i) else none)))))), ((jhr 0), .inl (cI, 96, .inl (fun _ => 0))), ((jhr 1), .inl (cI, 96, .inl (fun _ => 0))), ((jhr 2), .inl (cI, 96, .inl (fun _ => 0))), ((jhr 3), .inl (cI, 96, .inl (fun _ => 0))), ((jhr 4), .inl (cI, 96, .inl (fun _ => 0))), ((jhr 5), .inl (cI, 96, .inl (fun _ => 0))), (jw, .inl (cI, 6, .inl (fun _ => 0))), (jo, .inl (cI, 5, .inl (fun _ => 0))), (jb, .inl (cI, 5, .inl (fun _ => 0)))] rfl dX4_init_45 ?_
  refine g_aload_n F 0 dX4_init_48 rfl rfl ?_
  refine g_aload_n F 1 dX4_init_49 rfl rfl ?_
  refine g_putF (C := RX4) (T := TX4) (N := 12) (ty := (.object "QuietCut$Piece")) (v := .ref jp) F i_X4 0 rfl rfl 0 (by decide) w_10 rfl tyX4 tyX4_ok nmX4 rfl hnm rfl (by decide +kernel) rfl rfl (Nat.le_of_ble_eq_true rfl) [(j0, .inr (3, [.ref jp, .null, .ref jj, .int 0, .ref jh, .ref jw, .ref jo, .ref jb, .int 0, .int 0, .int 0, .int 0])), (jj, .inl (cII, 4, .inr (.inr (.inr (.inr (fun i => if i < 4 then some (jjr i) else none)))))), ((jjr 0), .inl (cI, 5, .inl (fun _ => 0))), ((jjr 1), .inl (cI, 5, .inl (fun _ => 0))), ((jjr 2), .inl (cI, 5, .inl (fun _ => 0))), ((jjr 3), .inl (cI, 5, .inl (fun _ => 0))), (jh, .inl (cII, 6, .inr (.inr (.inr (.inr (fun i => if i < 6 then some (jhr i) else none)))))), ((jhr 0), .inl (cI, 96, .inl (fun _ => 0))), ((jhr 1), .inl (cI, 96, .inl (fun _ => 0))), ((jhr 2), .inl (cI, 96, .inl (fun _ => 0))), ((jhr 3), .inl (cI, 96, .inl (fun _ => 0))), ((jhr 4), .inl (cI, 96, .inl (fun _ => 0))), ((jhr 5), .inl (cI, 96, .inl (fun _ => 0))), (jw, .inl (cI, 6, .inl (fun _ => 0))), (jo, .inl (cI, 5, .inl (fun _ => 0))), (jb, .inl (cI, 5, .inl (fun _ => 0)))] rfl dX4_init_50 ?_
  refine g_aload_n F 0 dX4_init_53 rfl rfl ?_
  refine g_aload_n F 2 dX4_init_54 rfl rfl ?_
  refine g_putF (C := RX4) (T := TX4) (N := 12) (ty := (.object "QuietCut$Lathe")) (v := .ref jl) F i_X4 0 rfl rfl 1 (by decide) w_11 rfl tyX4 tyX4_ok nmX4 rfl hnm rfl (by decide +kernel) rfl rfl (Nat.le_of_ble_eq_true rfl) [(j0, .inr (3, [.ref jp, .ref jl, .ref jj, .int 0, .ref jh, .ref jw, .ref jo, .ref jb, .int 0, .int 0, .int 0, .int 0])), (jj, .inl (cII, 4, .inr (.inr (.inr (.inr (fun i => if i < 4 then some (jjr i) else none)))))), ((jjr 0), .inl (cI, 5, .inl (fun _ => 0))), ((jjr 1), .inl (cI, 5, .inl (fun _ => 0))), ((jjr 2), .inl (cI, 5, .inl (fun _ => 0))), ((jjr 3), .inl (cI, 5, .inl (fun _ => 0))), (jh, .inl (cII, 6, .inr (.inr (.inr (.inr (fun i => if i < 6 then some (jhr i) else none)))))), ((jhr 0), .inl (cI, 96, .inl (fun _ => 0))), ((jhr 1), .inl (cI, 96, .inl (fun _ => 0))), ((jhr 2), .inl (cI, 96, .inl (fun _ => 0))), ((jhr 3), .inl (cI, 96, .inl (fun _ => 0))), ((jhr 4), .inl (cI, 96, .inl (fun _ => 0))), ((jhr 5), .inl (cI, 96, .inl (fun _ => 0))), (jw, .inl (cI, 6, .inl (fun _ => 0))), (jo, .inl (cI, 5, .inl (fun _ => 0))), (jb, .inl (cI, 5, .inl (fun _ => 0)))] rfl dX4_init_55 ?_
  exact g_vret F hA hQ hr (jj, jh, jw, jo, jb, jjr, jhr) (trivial) [0, 1, 2, 3, 4, 5, 6, 7, 8, 9, 10, 11, 12, 13, 14, 15] [0, 1] rfl (by decide) rfl rfl dX4_init_58

theorem dX2_init_0 : decode cX2_init 0 = .ok (.aload_n 0, 1) := by decide +kernel
theorem dX2_init_1 : decode cX2_init 1 = .ok (.invokespecial 3, 3) := by decide +kernel
theorem dX2_init_4 : decode cX2_init 4 = .ok (.aload_n 0, 1) := by decide +kernel
theorem dX2_init_5 : decode cX2_init 5 = .ok (.bipush 96, 2) := by decide +kernel
theorem dX2_init_7 : decode cX2_init 7 = .ok (.newarray .int, 2) := by decide +kernel
theorem dX2_init_9 : decode cX2_init 9 = .ok (.putfield 9, 3) := by decide +kernel
theorem dX2_init_12 : decode cX2_init 12 = .ok (.aload_n 0, 1) := by decide +kernel
theorem dX2_init_13 : decode cX2_init 13 = .ok (.bipush 10, 2) := by decide +kernel
theorem dX2_init_15 : decode cX2_init 15 = .ok (.bipush 16, 2) := by decide +kernel
theorem dX2_init_17 : decode cX2_init 17 = .ok (.multianewarray 15 2, 4) := by decide +kernel
theorem dX2_init_21 : decode cX2_init 21 = .ok (.putfield 17, 3) := by decide +kernel
theorem dX2_init_24 : decode cX2_init 24 = .ok (.aload_n 0, 1) := by decide +kernel
theorem dX2_init_25 : decode cX2_init 25 = .ok (.iconst 3, 1) := by decide +kernel
theorem dX2_init_26 : decode cX2_init 26 = .ok (.bipush 30, 2) := by decide +kernel
theorem dX2_init_28 : decode cX2_init 28 = .ok (.multianewarray 15 2, 4) := by decide +kernel
theorem dX2_init_32 : decode cX2_init 32 = .ok (.putfield 20, 3) := by decide +kernel
theorem dX2_init_35 : decode cX2_init 35 = .ok (.aload_n 0, 1) := by decide +kernel
theorem dX2_init_36 : decode cX2_init 36 = .ok (.iconst 3, 1) := by decide +kernel
theorem dX2_init_37 : decode cX2_init 37 = .ok (.bipush 20, 2) := by decide +kernel
theorem dX2_init_39 : decode cX2_init 39 = .ok (.multianewarray 15 2, 4) := by decide +kernel
theorem dX2_init_43 : decode cX2_init 43 = .ok (.putfield 23, 3) := by decide +kernel
theorem dX2_init_46 : decode cX2_init 46 = .ok (.aload_n 0, 1) := by decide +kernel
theorem dX2_init_47 : decode cX2_init 47 = .ok (.aload_n 1, 1) := by decide +kernel
theorem dX2_init_48 : decode cX2_init 48 = .ok (.putfield 26, 3) := by decide +kernel
theorem dX2_init_51 : decode cX2_init 51 = .ok (.aload_n 0, 1) := by decide +kernel
theorem dX2_init_52 : decode cX2_init 52 = .ok (.aload_n 2, 1) := by decide +kernel
theorem dX2_init_53 : decode cX2_init 53 = .ok (.putfield 30, 3) := by decide +kernel
theorem dX2_init_56 : decode cX2_init 56 = .ok (.aload_n 0, 1) := by decide +kernel
theorem dX2_init_57 : decode cX2_init 57 = .ok (.getfield 9, 3) := by decide +kernel
theorem dX2_init_60 : decode cX2_init 60 = .ok (.sipush 1000, 3) := by decide +kernel
theorem dX2_init_63 : decode cX2_init 63 = .ok (.invokestatic 34, 3) := by decide +kernel
theorem dX2_init_66 : decode cX2_init 66 = .ok (.return_, 1) := by decide +kernel
set_option maxRecDepth 20000 in
theorem ggX2_init_J7_fill_53178 : GoodIn wsX2_init wsJ7_fill_53178 := goodIn_r _ [15] rfl (by decide +kernel)
set_option maxRecDepth 20000 in
theorem gX2_init_J7_fill_53178 : GoodIn wsX2_init (va_wsS RX2 34 yJ7_fill_53178 wsJ7_fill_53178) := goodIn_app (goodIn_of _ (by decide +kernel)) ggX2_init_J7_fill_53178
set_option maxHeartbeats 4000000 in
set_option maxRecDepth 100000 in
theorem K_X2_init (l : Launch) (D : va_G) (tz : Nat) (e0 : Nat) (es : Nat) (el : Nat) (cI : ClassId) (cII : ClassId) (sz : Nat) : Kvz l yX2_init wsX2_init 2 53 20 422 D tz [.ref e0, .ref es, .ref el] [(e0, .inr (1, [.null, .null, .null, .null, .int 0, .null, .int 0, .null, .int 0, .int 0]))] [(cI, .int), (cII, .array .int)] sz (fun (u : Nat × Nat × Nat × Nat × (Nat → Nat) × (Nat → Nat) × (Nat → Nat)) => True) (fun (u : Nat × Nat × Nat × Nat × (Nat → Nat) × (Nat → Nat) × (Nat → Nat)) => [(e0, .inr (1, [.ref es, .ref el, .ref u.1, .ref u.2.1, .int 0, .ref u.2.2.1, .int 0, .ref u.2.2.2.1, .int 0, .int 0])), (u.1, .inl (cI, 96, .inl (fun _ => 1000))), (u.2.1, .inl (cII, 10, .inr (.inr (.inr (.inr (fun i => if i < 10 then some (u.2.2.2.2.1 i) else none)))))), ((u.2.2.2.2.1 0), .inl (cI, 16, .inl (fun _ => 0))), ((u.2.2.2.2.1 1), .inl (cI, 16, .inl (fun _ => 0))), ((u.2.2.2.2.1 2), .inl (cI, 16, .inl (fun _ => 0))), ((u.2.2.2.2.1 3), .inl (cI, 16, .inl (fun _ => 0))), ((u.2.2.2.2.1 4), .inl (cI, 16, .inl (fun _ => 0))), ((u.2.2.2.2.1 5), .inl (cI, 16, .inl (fun _ => 0))), ((u.2.2.2.2.1 6), .inl (cI, 16, .inl (fun _ => 0))), ((u.2.2.2.2.1 7), .inl (cI, 16, .inl (fun _ => 0))), ((u.2.2.2.2.1 8), .inl (cI, 16, .inl (fun _ => 0))), ((u.2.2.2.2.1 9), .inl (cI, 16, .inl (fun _ => 0))), (u.2.2.1, .inl (cII, 3, .inr (.inr (.inr (.inr (fun i => if i < 3 then some (u.2.2.2.2.2.1 i) else none)))))), ((u.2.2.2.2.2.1 0), .inl (cI, 30, .inl (fun _ => 0))), ((u.2.2.2.2.2.1 1), .inl (cI, 30, .inl (fun _ => 0))), ((u.2.2.2.2.2.1 2), .inl (cI, 30, .inl (fun _ => 0))), (u.2.2.2.1, .inl (cII, 3, .inr (.inr (.inr (.inr (fun i => if i < 3 then some (u.2.2.2.2.2.2 i) else none)))))), ((u.2.2.2.2.2.2 0), .inl (cI, 20, .inl (fun _ => 0))), ((u.2.2.2.2.2.2 1), .inl (cI, 20, .inl (fun _ => 0))), ((u.2.2.2.2.2.2 2), .inl (cI, 20, .inl (fun _ => 0)))]) (fun (_ : Nat × Nat × Nat × Nat × (Nat → Nat) × (Nat → Nat) × (Nat → Nat)) => [(cI, .int), (cII, .array .int)]) := by
  unfold Kvz
  refine g_ofWz (cc := cX2_init) (lv := [(0, .ref e0), (1, .ref es), (2, .ref el)]) (by decide) rfl (Nat.le_of_ble_eq_true rfl) rfl ?_
  intro p e s m args below meth c A Q hA hQ Z F hr hnm
  have hts := F.2.2.2.2.1
  have w_0 : (Cond.methodLink RX2 3 objectInit).before args s = true := hts _ (List.mem_of_getElem? (i := 1) rfl)
  have w_1 : (Cond.instanceMethod objectInit).before args s = true := hts _ (List.mem_of_getElem? (i := 2) rfl)
  have w_2 : (Cond.code objectInit ⟨#[0xb1]⟩ 1 none).before args s = true := hts _ (List.mem_of_getElem? (i := 3) rfl)
  have w_3 : (Cond.arrayClass .int).before args s = true := hts _ (List.mem_of_getElem? (i := 4) rfl)
  have w_4 : (Cond.fieldLink RX2 9 "QuietCut$Ear" "fresh" "[I").before args s = true := hts _ (List.mem_of_getElem? (i := 5) rfl)
  have i_X2 : ∀ w ∈ u_ws RX2 TX2 10, w ∈ wsX2_init := fun _ h => List.mem_cons_of_mem _ (List.mem_append_right _ h)
  have w_5 : (Cond.classLink RX2 15 "[[I").before args s = true := hts _ (List.mem_of_getElem? (i := 6) rfl)
  have w_6 : (Cond.fieldLink RX2 17 "QuietCut$Ear" "verdicts" "[[I").before args s = true := hts _ (List.mem_of_getElem? (i := 7) rfl)
  have w_7 : (Cond.fieldLink RX2 20 "QuietCut$Ear" "heardRows" "[[I").before args s = true := hts _ (List.mem_of_getElem? (i := 8) rfl)
  have w_8 : (Cond.fieldLink RX2 23 "QuietCut$Ear" "rightRows" "[[I").before args s = true := hts _ (List.mem_of_getElem? (i := 9) rfl)
  have w_9 : (Cond.fieldLink RX2 26 "QuietCut$Ear" "shop" "LQuietCut$Shop;").before args s = true := hts _ (List.mem_of_getElem? (i := 10) rfl)
  have w_10 : (Cond.fieldLink RX2 30 "QuietCut$Ear" "lathe" "LQuietCut$Lathe;").before args s = true := hts _ (List.mem_of_getElem? (i := 11) rfl)
  refine g_aload_n F 0 dX2_init_0 rfl rfl ?_
  refine g_objInit F w_0 w_1 w_2 dX2_init_1 (Nat.le_of_ble_eq_true rfl) (Nat.le_of_ble_eq_true rfl) ?_
  refine g_aload_n F 0 dX2_init_4 rfl rfl ?_
  refine g_bipush F 96 dX2_init_5 (by decide) ?_
  refine g_newi F 0 rfl w_3 96 (by decide) rfl (by decide) (Nat.le_of_ble_eq_true rfl) (Nat.le_of_ble_eq_true rfl) dX2_init_7 (fun ef => ?_)
  show gG p l e (gR 2 20 422 53) s m args below meth c D A 3 Q 1 96 [(e0, .inr (1, [.null, .null, .null, .null, .int 0, .null, .int 0, .null, .int 0, .int 0])), (ef, .inl (cI, 96, .inl (fun _ => 0)))] [(cI, .int), (cII, .array .int)] [(0, .ref e0), (1, .ref es), (2, .ref el)] 9 [.ref ef, .ref e0]
  refine g_putF (C := RX2) (T := TX2) (N := 10) (ty := (.array .int)) (v := .ref ef) F i_X2 0 rfl rfl 2 (by decide) w_4 rfl tyX2 tyX2_ok nmX2 rfl hnm rfl (by decide +kernel) rfl rfl (Nat.le_of_ble_eq_true rfl) [(e0, .inr (1, [.null, .null, .ref ef, .null, .int 0, .null, .int 0, .null, .int 0, .int 0])), (ef, .inl (cI, 96, .inl (fun _ => 0)))] rfl dX2_init_9 ?_
  refine g_aload_n F 0 dX2_init_12 rfl rfl ?_
  refine g_bipush F 10 dX2_init_13 (by decide) ?_
  refine g_bipush F 16 dX2_init_15 (by decide) ?_
  refine g_mna F 0 1 rfl rfl (cn := "[[I") (by decide) w_5 Z w_3 10 16 10 (by decide) (by decide) (by decide) rfl rfl (by decide) (by decide) (by decide) (Nat.le_of_ble_eq_true rfl) (Nat.le_of_ble_eq_true rfl) dX2_init_17 (fun ev evr => ?_)
  show gG p l e (gR 2 20 422 53) s m args below meth c D A 3 Q 12 266 [(e0, .inr (1, [.null, .null, .ref ef, .null, .int 0, .null, .int 0, .null, .int 0, .int 0])), (ef, .inl (cI, 96, .inl (fun _ => 0))), (ev, .inl (cII, 10, .inr (.inr (.inr (.inr (fun i => if i < 10 then some (evr i) else none)))))), ((evr 0), .inl (cI, 16, .inl (fun _ => 0))), ((evr 1), .inl (cI, 16, .inl (fun _ => 0))), ((evr 2), .inl (cI, 16, .inl (fun _ => 0))), ((evr 3), .inl (cI, 16, .inl (fun _ => 0))), ((evr 4), .inl (cI, 16, .inl (fun _ => 0))), ((evr 5), .inl (cI, 16, .inl (fun _ => 0))), ((evr 6), .inl (cI, 16, .inl (fun _ => 0))), ((evr 7), .inl (cI, 16, .inl (fun _ => 0))), ((evr 8), .inl (cI, 16, .inl (fun _ => 0))), ((evr 9), .inl (cI, 16, .inl (fun _ => 0)))] [(cI, .int), (cII, .array .int)] [(0, .ref e0), (1, .ref es), (2, .ref el)] 21 [.ref ev, .ref e0]
  refine g_putF (C := RX2) (T := TX2) (N := 10) (ty := (.array (.array .int))) (v := .ref ev) F i_X2 0 rfl rfl 3 (by decide) w_6 rfl tyX2 tyX2_ok nmX2 rfl hnm rfl (by decide +kernel) rfl rfl (Nat.le_of_ble_eq_true rfl) [(e0, .inr (1, [.null, .null, .ref ef, .ref ev, .int 0, .null, .int 0, .null, .int 0, .int 0])), (ef, .inl (cI, 96, .inl (fun _ => 0))), (ev, .inl (cII, 10, .inr (.inr (.inr (.inr (fun i => if i < 10 then some (evr i) else none)))))), ((evr 0), .inl (cI, 16, .inl (fun _ => 0))), ((evr 1), .inl (cI, 16, .inl (fun _ => 0))), ((evr 2), .inl (cI, 16, .inl (fun _ => 0))), ((evr 3), .inl (cI, 16, .inl (fun _ => 0))), ((evr 4), .inl (cI, 16, .inl (fun _ => 0))), ((evr 5), .inl (cI, 16, .inl (fun _ => 0))), ((evr 6), .inl (cI, 16, .inl (fun _ => 0))), ((evr 7), .inl (cI, 16, .inl (fun _ => 0))), ((evr 8), .inl (cI, 16, .inl (fun _ => 0))), ((evr 9), .inl (cI, 16, .inl (fun _ => 0)))] rfl dX2_init_21 ?_
  refine g_aload_n F 0 dX2_init_24 rfl rfl ?_
  refine g_iconst F 3 dX2_init_25 (by decide) ?_
  refine g_bipush F 30 dX2_init_26 (by decide) ?_
  refine g_mna F 0 1 rfl rfl (cn := "[[I") (by decide) w_5 Z w_3 3 30 3 (by decide) (by decide) (by decide) rfl rfl (by decide) (by decide) (by decide) (Nat.le_of_ble_eq_true rfl) (Nat.le_of_ble_eq_true rfl) dX2_init_28 (fun eh ehr => ?_)
  show gG p l e (gR 2 20 422 53) s m args below meth c D A 3 Q 16 359 [(e0, .inr (1, [.null, .null, .ref ef, .ref ev, .int 0, .null, .int 0, .null, .int 0, .int 0])), (ef, .inl (cI, 96, .inl (fun _ => 0))), (ev, .inl (cII, 10, .inr (.inr (.inr (.inr (fun i => if i < 10 then some (evr i) else none)))))), ((evr 0), .inl (cI, 16, .inl (fun _ => 0))), ((evr 1), .inl (cI, 16, .inl (fun _ => 0))), ((evr 2), .inl (cI, 16, .inl (fun _ => 0))), ((evr 3), .inl (cI, 16, .inl (fun _ => 0))), ((evr 4), .inl (cI, 16, .inl (fun _ => 0))), ((evr 5), .inl (cI, 16, .inl (fun _ => 0))), ((evr 6), .inl (cI, 16, .inl (fun _ => 0))), ((evr 7), .inl (cI, 16, .inl (fun _ => 0))), ((evr 8), .inl (cI, 16, .inl (fun _ => 0))), ((evr 9), .inl (cI, 16, .inl (fun _ => 0))), (eh, .inl (cII, 3, .inr (.inr (.inr (.inr (fun i => if i < 3 then some (ehr i) else none)))))), ((ehr 0), .inl (cI, 30, .inl (fun _ => 0))), ((ehr 1), .inl (cI, 30, .inl (fun _ => 0))), ((ehr 2), .inl (cI, 30, .inl (fun _ => 0)))] [(cI, .int), (cII, .array .int)] [(0, .ref e0), (1, .ref es), (2, .ref el)] 32 [.ref eh, .ref e0]
  refine g_putF (C := RX2) (T := TX2) (N := 10) (ty := (.array (.array .int))) (v := .ref eh) F i_X2 0 rfl rfl 5 (by decide) w_7 rfl tyX2 tyX2_ok nmX2 rfl hnm rfl (by decide +kernel) rfl rfl (Nat.le_of_ble_eq_true rfl) [(e0, .inr (1, [.null, .null, .ref ef, .ref ev, .int 0, .ref eh, .int 0, .null, .int 0, .int 0])), (ef, .inl (cI, 96, .inl (fun _ => 0))), (ev, .inl (cII, 10, .inr (.inr (.inr (.inr (fun i => if i < 10 then some (evr i) else none)))))), ((evr 0), .inl (cI, 16, .inl (fun _ => 0))), ((evr 1), .inl (cI, 16, .inl (fun _ => 0))), ((evr 2), .inl (cI, 16, .inl (fun _ => 0))), ((evr 3), .inl (cI, 16, .inl (fun _ => 0))), ((evr 4), .inl (cI, 16, .inl (fun _ => 0))), ((evr 5), .inl (cI, 16, .inl (fun _ => 0))), ((evr 6), .inl (cI, 16, .inl (fun _ => 0))), ((evr 7), .inl (cI, 16, .inl (fun _ => 0))), ((evr 8), .inl (cI, 16, .inl (fun _ => 0))), ((evr 9), .inl (cI, 16, .inl (fun _ => 0))), (eh, .inl (cII, 3, .inr (.inr (.inr (.inr (fun i => if i < 3 then some (ehr i) else none)))))), ((ehr 0), .inl (cI, 30, .inl (fun _ => 0))), ((ehr 1), .inl (cI, 30, .inl (fun _ => 0))), ((ehr 2), .inl (cI, 30, .inl (fun _ => 0)))] rfl dX2_init_32 ?_
  refine g_aload_n F 0 dX2_init_35 rfl rfl ?_
  refine g_iconst F 3 dX2_init_36 (by decide) ?_
  refine g_bipush F 20 dX2_init_37 (by decide) ?_
  refine g_mna F 0 1 rfl rfl (cn := "[[I") (by decide) w_5 Z w_3 3 20 3 (by decide) (by decide) (by decide) rfl rfl (by decide) (by decide) (by decide) (Nat.le_of_ble_eq_true rfl) (Nat.le_of_ble_eq_true rfl) dX2_init_39 (fun er err => ?_)
  show gG p l e (gR 2 20 422 53) s m args below meth c D A 3 Q 20 422 [(e0, .inr (1, [.null, .null, .ref ef, .ref ev, .int 0, .ref eh, .int 0, .null, .int 0, .int 0])), (ef, .inl (cI, 96, .inl (fun _ => 0))), (ev, .inl (cII, 10, .inr (.inr (.inr (.inr (fun i => if i < 10 then some (evr i) else none)))))), ((evr 0), .inl (cI, 16, .inl (fun _ => 0))), ((evr 1), .inl (cI, 16, .inl (fun _ => 0))), ((evr 2), .inl (cI, 16, .inl (fun _ => 0))), ((evr 3), .inl (cI, 16, .inl (fun _ => 0))), ((evr 4), .inl (cI, 16, .inl (fun _ => 0))), ((evr 5), .inl (cI, 16, .inl (fun _ => 0))), ((evr 6), .inl (cI, 16, .inl (fun _ => 0))), ((evr 7), .inl (cI, 16, .inl (fun _ => 0))), ((evr 8), .inl (cI, 16, .inl (fun _ => 0))), ((evr 9), .inl (cI, 16, .inl (fun _ => 0))), (eh, .inl (cII, 3, .inr (.inr (.inr (.inr (fun i => if i < 3 then some (ehr i) else none)))))), ((ehr 0), .inl (cI, 30, .inl (fun _ => 0))), ((ehr 1), .inl (cI, 30, .inl (fun _ => 0))), ((ehr 2), .inl (cI, 30, .inl (fun _ => 0))), (er, .inl (cII, 3, .inr (.inr (.inr (.inr (fun i => if i < 3 then some (err i) else none)))))), ((err 0), .inl (cI, 20, .inl (fun _ => 0))), ((err 1), .inl (cI, 20, .inl (fun _ => 0))), ((err 2), .inl (cI, 20, .inl (fun _ => 0)))] [(cI, .int), (cII, .array .int)] [(0, .ref e0), (1, .ref es), (2, .ref el)] 43 [.ref er, .ref e0]
  refine g_putF (C := RX2) (T := TX2) (N := 10) (ty := (.array (.array .int))) (v := .ref er) F i_X2 0 rfl rfl 7 (by decide) w_8 rfl tyX2 tyX2_ok nmX2 rfl hnm rfl (by decide +kernel) rfl rfl (Nat.le_of_ble_eq_true rfl) [(e0, .inr (1, [.null, .null, .ref ef, .ref ev, .int 0, .ref eh, .int 0, .ref er, .int 0, .int 0])), (ef, .inl (cI, 96, .inl (fun _ => 0))), (ev, .inl (cII, 10, .inr (.inr (.inr (.inr (fun i => if i < 10 then some (evr i) else none)))))), ((evr 0), .inl (cI, 16, .inl (fun _ => 0))), ((evr 1), .inl (cI, 16, .inl (fun _ => 0))), ((evr 2), .inl (cI, 16, .inl (fun _ => 0))), ((evr 3), .inl (cI, 16, .inl (fun _ => 0))), ((evr 4), .inl (cI, 16, .inl (fun _ => 0))), ((evr 5), .inl (cI, 16, .inl (fun _ => 0))), ((evr 6), .inl (cI, 16, .inl (fun _ => 0))), ((evr 7), .inl (cI, 16, .inl (fun _ => 0))), ((evr 8), .inl (cI, 16, .inl (fun _ => 0))), ((evr 9), .inl (cI, 16, .inl (fun _ => 0))), (eh, .inl (cII, 3, .inr (.inr (.inr (.inr (fun i => if i < 3 then some (ehr i) else none)))))), ((ehr 0), .inl (cI, 30, .inl (fun _ => 0))), ((ehr 1), .inl (cI, 30, .inl (fun _ => 0))), ((ehr 2), .inl (cI, 30, .inl (fun _ => 0))), (er, .inl (cII, 3, .inr (.inr (.inr (.inr (fun i => if i < 3 then some (err i) else none)))))), ((err 0), .inl (cI, 20, .inl (fun _ => 0))), ((err 1), .inl (cI, 20, .inl (fun _ => 0))), ((err 2), .inl (cI, 20, .inl (fun _ => 0)))] rfl dX2_init_43 ?_
  refine g_aload_n F 0 dX2_init_46 rfl rfl ?_
  refine g_aload_n F 1 dX2_init_47 rfl rfl ?_
  refine g_putF (C := RX2) (T := TX2) (N := 10) (ty := (.object "QuietCut$Shop")) (v := .ref es) F i_X2 0 rfl rfl 0 (by decide) w_9 rfl tyX2 tyX2_ok nmX2 rfl hnm rfl (by decide +kernel) rfl rfl (Nat.le_of_ble_eq_true rfl) [(e0, .inr (1, [.ref es, .null, .ref ef, .ref ev, .int 0, .ref eh, .int 0, .ref er, .int 0, .int 0])), (ef, .inl (cI, 96, .inl (fun _ => 0))), (ev, .inl (cII, 10, .inr (.inr (.inr (.inr (fun i => if i < 10 then some (evr i) else none)))))), ((evr 0), .inl (cI, 16, .inl (fun _ => 0))), ((evr 1), .inl (cI, 16, .inl (fun _ => 0))), ((evr 2), .inl (cI, 16, .inl (fun _ => 0))), ((evr 3), .inl (cI, 16, .inl (fun _ => 0))), ((evr 4), .inl (cI, 16, .inl (fun _ => 0))), ((evr 5), .inl (cI, 16, .inl (fun _ => 0))), ((evr 6), .inl (cI, 16, .inl (fun _ => 0))), ((evr 7), .inl (cI, 16, .inl (fun _ => 0))), ((evr 8), .inl (cI, 16, .inl (fun _ => 0))), ((evr 9), .inl (cI, 16, .inl (fun _ => 0))), (eh, .inl (cII, 3, .inr (.inr (.inr (.inr (fun i => if i < 3 then some (ehr i) else none)))))), ((ehr 0), .inl (cI, 30, .inl (fun _ => 0))), ((ehr 1), .inl (cI, 30, .inl (fun _ => 0))), ((ehr 2), .inl (cI, 30, .inl (fun _ => 0))), (er, .inl (cII, 3, .inr (.inr (.inr (.inr (fun i => if i < 3 then some (err i) else none)))))), ((err 0), .inl (cI, 20, .inl (fun _ => 0))), ((err 1), .inl (cI, 20, .inl (fun _ => 0))), ((err 2), .inl (cI, 20, .inl (fun _ => 0)))] rfl dX2_init_48 ?_
  refine g_aload_n F 0 dX2_init_51 rfl rfl ?_
  refine g_aload_n F 2 dX2_init_52 rfl rfl ?_
  refine g_putF (C := RX2) (T := TX2) (N := 10) (ty := (.object "QuietCut$Lathe")) (v := .ref el) F i_X2 0 rfl rfl 1 (by decide) w_10 rfl tyX2 tyX2_ok nmX2 rfl hnm rfl (by decide +kernel) rfl rfl (Nat.le_of_ble_eq_true rfl) [(e0, .inr (1, [.ref es, .ref el, .ref ef, .ref ev, .int 0, .ref eh, .int 0, .ref er, .int 0, .int 0])), (ef, .inl (cI, 96, .inl (fun _ => 0))), (ev, .inl (cII, 10, .inr (.inr (.inr (.inr (fun i => if i < 10 then some (evr i) else none)))))), ((evr 0), .inl (cI, 16, .inl (fun _ => 0))), ((evr 1), .inl (cI, 16, .inl (fun _ => 0))), ((evr 2), .inl (cI, 16, .inl (fun _ => 0))), ((evr 3), .inl (cI, 16, .inl (fun _ => 0))), ((evr 4), .inl (cI, 16, .inl (fun _ => 0))), ((evr 5), .inl (cI, 16, .inl (fun _ => 0))), ((evr 6), .inl (cI, 16, .inl (fun _ => 0))), ((evr 7), .inl (cI, 16, .inl (fun _ => 0))), ((evr 8), .inl (cI, 16, .inl (fun _ => 0))), ((evr 9), .inl (cI, 16, .inl (fun _ => 0))), (eh, .inl (cII, 3, .inr (.inr (.inr (.inr (fun i => if i < 3 then some (ehr i) else none)))))), ((ehr 0), .inl (cI, 30, .inl (fun _ => 0))), ((ehr 1), .inl (cI, 30, .inl (fun _ => 0))), ((ehr 2), .inl (cI, 30, .inl (fun _ => 0))), (er, .inl (cII, 3, .inr (.inr (.inr (.inr (fun i => if i < 3 then some (err i) else none)))))), ((err 0), .inl (cI, 20, .inl (fun _ => 0))), ((err 1), .inl (cI, 20, .inl (fun _ => 0))), ((err 2), .inl (cI, 20, .inl (fun _ => 0)))] rfl dX2_init_53 ?_
  refine g_aload_n F 0 dX2_init_56 rfl rfl ?_
  refine g_get (C := RX2) (T := TX2) (N := 10) (v := .ref ef) F i_X2 0 rfl rfl 2 (by decide) w_4 rfl rfl dX2_init_57 ?_
  refine g_sipush F 1000 dX2_init_60 (by decide) ?_
  refine g_callSv (k := 20) (n := 422) (As := [.ref ef, .int 1000]) (st := []) (wc := [(ef, .inl (cI, 96, .inl (fun _ => 0)))]) (wr := [(e0, .inr (1, [.ref es, .ref el, .ref ef, .ref ev, .int 0, .ref eh, .int 0, .ref er, .int 0, .int 0])), (ev, .inl (cII, 10, .inr (.inr (.inr (.inr (fun i => if i < 10 then some (evr i) else none)))))), ((evr 0), .inl (cI, 16, .inl (fun _ => 0))), ((evr 1), .inl (cI, 16, .inl (fun _ => 0))), ((evr 2), .inl (cI, 16, .inl (fun _ => 0))), ((evr 3), .inl (cI, 16, .inl (fun _ => 0))), ((evr 4), .inl (cI, 16, .inl (fun _ => 0))), ((evr 5), .inl (cI, 16, .inl (fun _ => 0))), ((evr 6), .inl (cI, 16, .inl (fun _ => 0))), ((evr 7), .inl (cI, 16, .inl (fun _ => 0))), ((evr 8), .inl (cI, 16, .inl (fun _ => 0))), ((evr 9), .inl (cI, 16, .inl (fun _ => 0))), (eh, .inl (cII, 3, .inr (.inr (.inr (.inr (fun i => if i < 3 then some (ehr i) else none)))))), ((ehr 0), .inl (cI, 30, .inl (fun _ => 0))), ((ehr 1), .inl (cI, 30, .inl (fun _ => 0))), ((ehr 2), .inl (cI, 30, .inl (fun _ => 0))), (er, .inl (cII, 3, .inr (.inr (.inr (.inr (fun i => if i < 3 then some (err i) else none)))))), ((err 0), .inl (cI, 20, .inl (fun _ => 0))), ((err 1), .inl (cI, 20, .inl (fun _ => 0))), ((err 2), .inl (cI, 20, .inl (fun _ => 0)))]) F [1] [0, 2, 3, 4, 5, 6, 7, 8, 9, 10, 11, 12, 13, 14, 15, 16, 17, 18, 19, 20] [0] rfl rfl (by decide) rfl (by decide) (by decide) rfl (fun sz => K_J7_fill_53178 l D ef 96 (fun _ => 0) 1000 cI (by first | assumption | decide | omega) sz) (va_cwS 2 hts gX2_init_J7_fill_53178 rfl rfl rfl (by decide +kernel) ⟨Nat.le_of_ble_eq_true rfl, Nat.le_of_ble_eq_true rfl⟩) rfl (Nat.le_of_ble_eq_true rfl) ⟨Nat.le_of_ble_eq_true rfl, Nat.le_of_ble_eq_true rfl⟩ dX2_init_63 (fun _ hw_2 => ?_)
  show gG p l e (gR 2 20 422 53) s m args below meth c D A 3 Q 20 422 [(e0, .inr (1, [.ref es, .ref el, .ref ef, .ref ev, .int 0, .ref eh, .int 0, .ref er, .int 0, .int 0])), (ev, .inl (cII, 10, .inr (.inr (.inr (.inr (fun i => if i < 10 then some (evr i) else none)))))), ((evr 0), .inl (cI, 16, .inl (fun _ => 0))), ((evr 1), .inl (cI, 16, .inl (fun _ => 0))), ((evr 2), .inl (cI, 16, .inl (fun _ => 0))), ((evr 3), .inl (cI, 16, .inl (fun _ => 0))), ((evr 4), .inl (cI, 16, .inl (fun _ => 0))), ((evr 5), .inl (cI, 16, .inl (fun _ => 0))), ((evr 6), .inl (cI, 16, .inl (fun _ => 0))), ((evr 7), .inl (cI, 16, .inl (fun _ => 0))), ((evr 8), .inl (cI, 16, .inl (fun _ => 0))), ((evr 9), .inl (cI, 16, .inl (fun _ => 0))), (eh, .inl (cII, 3, .inr (.inr (.inr (.inr (fun i => if i < 3 then some (ehr i) else none)))))), ((ehr 0), .inl (cI, 30, .inl (fun _ => 0))), ((ehr 1), .inl (cI, 30, .inl (fun _ => 0))), ((ehr 2), .inl (cI, 30, .inl (fun _ => 0))), (er, .inl (cII, 3, .inr (.inr (.inr (.inr (fun i => if i < 3 then some (err i) else none)))))), ((err 0), .inl (cI, 20, .inl (fun _ => 0))), ((err 1), .inl (cI, 20, .inl (fun _ => 0))), ((err 2), .inl (cI, 20, .inl (fun _ => 0))), (ef, .inl (cI, 96, .inl (fun _ => 1000)))] [(cI, .int), (cII, .array .int)] [(0, .ref e0), (1, .ref es), (2, .ref el)] 66 []
  exact g_vret F hA hQ hr (ef, ev, eh, er, evr, ehr, err) (trivial) [0, 20, 1, 2, 3, 4, 5, 6, 7, 8, 9, 10, 11, 12, 13, 14, 15, 16, 17, 18, 19] [0, 1] rfl (by decide) rfl rfl dX2_init_66

theorem dX9_init_0 : decode cX9_init 0 = .ok (.aload_n 0, 1) := by decide +kernel
theorem dX9_init_1 : decode cX9_init 1 = .ok (.invokespecial 3, 3) := by decide +kernel
theorem dX9_init_4 : decode cX9_init 4 = .ok (.aload_n 0, 1) := by decide +kernel
theorem dX9_init_5 : decode cX9_init 5 = .ok (.sipush 150, 3) := by decide +kernel
theorem dX9_init_8 : decode cX9_init 8 = .ok (.newarray .int, 2) := by decide +kernel
theorem dX9_init_10 : decode cX9_init 10 = .ok (.putfield 11, 3) := by decide +kernel
theorem dX9_init_13 : decode cX9_init 13 = .ok (.aload_n 0, 1) := by decide +kernel
theorem dX9_init_14 : decode cX9_init 14 = .ok (.sipush 150, 3) := by decide +kernel
theorem dX9_init_17 : decode cX9_init 17 = .ok (.newarray .int, 2) := by decide +kernel
theorem dX9_init_19 : decode cX9_init 19 = .ok (.putfield 15, 3) := by decide +kernel
theorem dX9_init_22 : decode cX9_init 22 = .ok (.return_, 1) := by decide +kernel
set_option maxHeartbeats 4000000 in
set_option maxRecDepth 100000 in
theorem K_X9_init (l : Launch) (D : va_G) (s0 : Nat) (cI : ClassId) (sz : Nat) : Kv l yX9_init wsX9_init 1 30 2 300 D [.ref s0] [(s0, .inr (8, [.null, .null, .int 0]))] [(cI, .int)] sz (fun (u : Nat × Nat) => True) (fun (u : Nat × Nat) => [(s0, .inr (8, [.ref u.1, .ref u.2, .int 0])), (u.1, .inl (cI, 150, .inl (fun _ => 0))), (u.2, .inl (cI, 150, .inl (fun _ => 0)))]) (fun (_ : Nat × Nat) => [(cI, .int)]) := by
  unfold Kv
  refine g_ofW (cc := cX9_init) (lv := [(0, .ref s0)]) (by decide) rfl (Nat.le_of_ble_eq_true rfl) rfl ?_
  intro p e s m args below meth c A Q hA hQ F hr hnm
  have hts := F.2.2.2.2.1
  have w_0 : (Cond.methodLink RX9 3 objectInit).before args s = true := hts _ (List.mem_of_getElem? (i := 1) rfl)
  have w_1 : (Cond.instanceMethod objectInit).before args s = true := hts _ (List.mem_of_getElem? (i := 2) rfl)
  have w_2 : (Cond.code objectInit ⟨#[0xb1]⟩ 1 none).before args s = true := hts _ (List.mem_of_getElem? (i := 3) rfl)
  have w_3 : (Cond.arrayClass .int).before args s = true := hts _ (List.mem_of_getElem? (i := 4) rfl)
  have w_4 : (Cond.fieldLink RX9 11 "QuietCut$Sound" "numbers" "[I").before args s = true := hts _ (List.mem_of_getElem? (i := 5) rfl)
  have i_X9 : ∀ w ∈ u_ws RX9 TX9 3, w ∈ wsX9_init := fun _ h => List.mem_cons_of_mem _ (List.mem_append_right _ h)
  have w_5 : (Cond.fieldLink RX9 15 "QuietCut$Sound" "spare" "[I").before args s = true := hts _ (List.mem_of_getElem? (i := 6) rfl)
  refine g_aload_n F 0 dX9_init_0 rfl rfl ?_
  refine g_objInit F w_0 w_1 w_2 dX9_init_1 (Nat.le_of_ble_eq_true rfl) (Nat.le_of_ble_eq_true rfl) ?_
  refine g_aload_n F 0 dX9_init_4 rfl rfl ?_
  refine g_sipush F 150 dX9_init_5 (by decide) ?_
  refine g_newi F 0 rfl w_3 150 (by decide) rfl (by decide) (Nat.le_of_ble_eq_true rfl) (Nat.le_of_ble_eq_true rfl) dX9_init_8 (fun sn => ?_)
  show gG p l e (gR 1 2 300 30) s m args below meth c D A 1 Q 1 150 [(s0, .inr (8, [.null, .null, .int 0])), (sn, .inl (cI, 150, .inl (fun _ => 0)))] [(cI, .int)] [(0, .ref s0)] 10 [.ref sn, .ref s0]
  refine g_putF (C := RX9) (T := TX9) (N := 3) (ty := (.array .int)) (v := .ref sn) F i_X9 0 rfl rfl 0 (by decide) w_4 rfl tyX9 tyX9_ok nmX9 rfl hnm rfl (by decide +kernel) rfl rfl (Nat.le_of_ble_eq_true rfl) [(s0, .inr (8, [.ref sn, .null, .int 0])), (sn, .inl (cI, 150, .inl (fun _ => 0)))] rfl dX9_init_10 ?_
  refine g_aload_n F 0 dX9_init_13 rfl rfl ?_
  refine g_sipush F 150 dX9_init_14 (by decide) ?_
  refine g_newi F 0 rfl w_3 150 (by decide) rfl (by decide) (Nat.le_of_ble_eq_true rfl) (Nat.le_of_ble_eq_true rfl) dX9_init_17 (fun sp => ?_)
  show gG p l e (gR 1 2 300 30) s m args below meth c D A 1 Q 2 300 [(s0, .inr (8, [.ref sn, .null, .int 0])), (sn, .inl (cI, 150, .inl (fun _ => 0))), (sp, .inl (cI, 150, .inl (fun _ => 0)))] [(cI, .int)] [(0, .ref s0)] 19 [.ref sp, .ref s0]
  refine g_putF (C := RX9) (T := TX9) (N := 3) (ty := (.array .int)) (v := .ref sp) F i_X9 0 rfl rfl 1 (by decide) w_5 rfl tyX9 tyX9_ok nmX9 rfl hnm rfl (by decide +kernel) rfl rfl (Nat.le_of_ble_eq_true rfl) [(s0, .inr (8, [.ref sn, .ref sp, .int 0])), (sn, .inl (cI, 150, .inl (fun _ => 0))), (sp, .inl (cI, 150, .inl (fun _ => 0)))] rfl dX9_init_19 ?_
  exact g_vret F hA hQ hr (sn, sp) (trivial) [0, 1, 2] [0] rfl (by decide) rfl rfl dX9_init_22

theorem dX8_init_0 : decode cX8_init 0 = .ok (.aload_n 0, 1) := by decide +kernel
theorem dX8_init_1 : decode cX8_init 1 = .ok (.invokespecial 3, 3) := by decide +kernel
theorem dX8_init_4 : decode cX8_init 4 = .ok (.aload_n 0, 1) := by decide +kernel
theorem dX8_init_5 : decode cX8_init 5 = .ok (.aload_n 1, 1) := by decide +kernel
theorem dX8_init_6 : decode cX8_init 6 = .ok (.putfield 9, 3) := by decide +kernel
theorem dX8_init_9 : decode cX8_init 9 = .ok (.aload_n 0, 1) := by decide +kernel
theorem dX8_init_10 : decode cX8_init 10 = .ok (.aload_n 2, 1) := by decide +kernel
theorem dX8_init_11 : decode cX8_init 11 = .ok (.putfield 15, 3) := by decide +kernel
theorem dX8_init_14 : decode cX8_init 14 = .ok (.return_, 1) := by decide +kernel
set_option maxHeartbeats 4000000 in
set_option maxRecDepth 100000 in
theorem K_X8_init (l : Launch) (D : va_G) (r0 : Nat) (rt : Nat) (rs : Nat) (sz : Nat) : Kv l yX8_init wsX8_init 1 30 0 0 D [.ref r0, .ref rt, .ref rs] [(r0, .inr (7, [.null, .null, .int 0, .int 0, .int 0, .int 0, .int 0]))] [] sz (fun (_ : Unit) => True) (fun (_ : Unit) => [(r0, .inr (7, [.ref rt, .ref rs, .int 0, .int 0, .int 0, .int 0, .int 0]))]) (fun (_ : Unit) => []) := by
  unfold Kv
  refine g_ofW (cc := cX8_init) (lv := [(0, .ref r0), (1, .ref rt), (2, .ref rs)]) (by decide) rfl (Nat.le_of_ble_eq_true rfl) rfl ?_
  intro p e s m args below meth c A Q hA hQ F hr hnm
  have hts := F.2.2.2.2.1
  have w_0 : (Cond.methodLink RX8 3 objectInit).before args s = true := hts _ (List.mem_of_getElem? (i := 1) rfl)
  have w_1 : (Cond.instanceMethod objectInit).before args s = true := hts _ (List.mem_of_getElem? (i := 2) rfl)
  have w_2 : (Cond.code objectInit ⟨#[0xb1]⟩ 1 none).before args s = true := hts _ (List.mem_of_getElem? (i := 3) rfl)
  have w_3 : (Cond.fieldLink RX8 9 "QuietCut$ShopReader" "tape" "LQuietCut$Tape;").before args s = true := hts _ (List.mem_of_getElem? (i := 4) rfl)
  have i_X8 : ∀ w ∈ u_ws RX8 TX8 7, w ∈ wsX8_init := fun _ h => List.mem_cons_of_mem _ (List.mem_append_right _ h)
  have w_4 : (Cond.fieldLink RX8 15 "QuietCut$ShopReader" "target" "LQuietCut$Shop;").before args s = true := hts _ (List.mem_of_getElem? (i := 5) rfl)
  refine g_aload_n F 0 dX8_init_0 rfl rfl ?_
  refine g_objInit F w_0 w_1 w_2 dX8_init_1 (Nat.le_of_ble_eq_true rfl) (Nat.le_of_ble_eq_true rfl) ?_
  refine g_aload_n F 0 dX8_init_4 rfl rfl ?_
  refine g_aload_n F 1 dX8_init_5 rfl rfl ?_
  refine g_putF (C := RX8) (T := TX8) (N := 7) (ty := (.object "QuietCut$Tape")) (v := .ref rt) F i_X8 0 rfl rfl 0 (by decide) w_3 rfl tyX8 tyX8_ok nmX8 rfl hnm rfl (by decide +kernel) rfl rfl (Nat.le_of_ble_eq_true rfl) [(r0, .inr (7, [.ref rt, .null, .int 0, .int 0, .int 0, .int 0, .int 0]))] rfl dX8_init_6 ?_
  refine g_aload_n F 0 dX8_init_9 rfl rfl ?_
  refine g_aload_n F 2 dX8_init_10 rfl rfl ?_
  refine g_putF (C := RX8) (T := TX8) (N := 7) (ty := (.object "QuietCut$Shop")) (v := .ref rs) F i_X8 0 rfl rfl 1 (by decide) w_4 rfl tyX8 tyX8_ok nmX8 rfl hnm rfl (by decide +kernel) rfl rfl (Nat.le_of_ble_eq_true rfl) [(r0, .inr (7, [.ref rt, .ref rs, .int 0, .int 0, .int 0, .int 0, .int 0]))] rfl dX8_init_11 ?_
  exact g_vret F hA hQ hr () (trivial) [0] [] rfl (by decide) rfl rfl dX8_init_14
