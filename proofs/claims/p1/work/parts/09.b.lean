theorem sp_sw1 {f st dm x v : Int32} {d : Nat} (h : ¬ (sp_sw f st dm x v d).2.2 = true) : (sp_sw f st dm x v (d + 1)).2.1 = (sp_sw f st dm x v d).2.1 + (f - st * (sp_sw f st dm x v d).1 - dm * (sp_sw f st dm x v d).2.1) / 4 ∧ (sp_sw f st dm x v (d + 1)).1 = (sp_sw f st dm x v d).1 + (sp_sw f st dm x v (d + 1)).2.1 ∧ ((sp_sw f st dm x v (d + 1)).2.2 = true ↔ (500 < (sp_sw f st dm x v (d + 1)).1 ∨ (sp_sw f st dm x v (d + 1)).1 < (-500))) := by
  have e : sp_sw f st dm x v (d + 1) = sp_step f st dm (sp_sw f st dm x v d) := rfl
  rw [e]
  unfold sp_step
  rw [if_neg h]
  exact ⟨rfl, rfl, by simp⟩

theorem dX5_swingsTooFar_0 : decode cX5_swingsTooFar 0 = .ok (.iconst 1, 1) := by decide +kernel
theorem dX5_swingsTooFar_1 : decode cX5_swingsTooFar 1 = .ok (.aload_n 0, 1) := by decide +kernel
theorem dX5_swingsTooFar_2 : decode cX5_swingsTooFar 2 = .ok (.getfield 29, 3) := by decide +kernel
theorem dX5_swingsTooFar_5 : decode cX5_swingsTooFar 5 = .ok (.getfield 56, 3) := by decide +kernel
theorem dX5_swingsTooFar_8 : decode cX5_swingsTooFar 8 = .ok (.iconst 2, 1) := by decide +kernel
theorem dX5_swingsTooFar_9 : decode cX5_swingsTooFar 9 = .ok (.iaload, 1) := by decide +kernel
theorem dX5_swingsTooFar_10 : decode cX5_swingsTooFar 10 = .ok (.invokestatic 146, 3) := by decide +kernel
theorem dX5_swingsTooFar_13 : decode cX5_swingsTooFar 13 = .ok (.istore 5, 2) := by decide +kernel
theorem dX5_swingsTooFar_15 : decode cX5_swingsTooFar 15 = .ok (.aload_n 0, 1) := by decide +kernel
theorem dX5_swingsTooFar_16 : decode cX5_swingsTooFar 16 = .ok (.getfield 29, 3) := by decide +kernel
theorem dX5_swingsTooFar_19 : decode cX5_swingsTooFar 19 = .ok (.getfield 56, 3) := by decide +kernel
theorem dX5_swingsTooFar_22 : decode cX5_swingsTooFar 22 = .ok (.bipush 7, 2) := by decide +kernel
theorem dX5_swingsTooFar_24 : decode cX5_swingsTooFar 24 = .ok (.iaload, 1) := by decide +kernel
theorem dX5_swingsTooFar_25 : decode cX5_swingsTooFar 25 = .ok (.istore 6, 2) := by decide +kernel
theorem dX5_swingsTooFar_27 : decode cX5_swingsTooFar 27 = .ok (.aload_n 0, 1) := by decide +kernel
theorem dX5_swingsTooFar_28 : decode cX5_swingsTooFar 28 = .ok (.getfield 131, 3) := by decide +kernel
theorem dX5_swingsTooFar_31 : decode cX5_swingsTooFar 31 = .ok (.istore 7, 2) := by decide +kernel
theorem dX5_swingsTooFar_33 : decode cX5_swingsTooFar 33 = .ok (.aload_n 0, 1) := by decide +kernel
theorem dX5_swingsTooFar_34 : decode cX5_swingsTooFar 34 = .ok (.getfield 134, 3) := by decide +kernel
theorem dX5_swingsTooFar_37 : decode cX5_swingsTooFar 37 = .ok (.istore 8, 2) := by decide +kernel
theorem dX5_swingsTooFar_39 : decode cX5_swingsTooFar 39 = .ok (.aload_n 0, 1) := by decide +kernel
theorem dX5_swingsTooFar_40 : decode cX5_swingsTooFar 40 = .ok (.getfield 143, 3) := by decide +kernel
theorem dX5_swingsTooFar_43 : decode cX5_swingsTooFar 43 = .ok (.istore 9, 2) := by decide +kernel
theorem dX5_swingsTooFar_45 : decode cX5_swingsTooFar 45 = .ok (.iconst 0, 1) := by decide +kernel
theorem dX5_swingsTooFar_46 : decode cX5_swingsTooFar 46 = .ok (.istore 10, 2) := by decide +kernel
theorem dX5_swingsTooFar_48 : decode cX5_swingsTooFar 48 = .ok (.iconst 0, 1) := by decide +kernel
theorem dX5_swingsTooFar_49 : decode cX5_swingsTooFar 49 = .ok (.istore 11, 2) := by decide +kernel
theorem dX5_swingsTooFar_51 : decode cX5_swingsTooFar 51 = .ok (.iload 11, 2) := by decide +kernel
theorem dX5_swingsTooFar_53 : decode cX5_swingsTooFar 53 = .ok (.iload_n 1, 1) := by decide +kernel
theorem dX5_swingsTooFar_54 : decode cX5_swingsTooFar 54 = .ok (.if_icmp .ge 86, 3) := by decide +kernel
theorem dX5_swingsTooFar_57 : decode cX5_swingsTooFar 57 = .ok (.iload 10, 2) := by decide +kernel
theorem dX5_swingsTooFar_59 : decode cX5_swingsTooFar 59 = .ok (.ifCond .ne 81, 3) := by decide +kernel
theorem dX5_swingsTooFar_62 : decode cX5_swingsTooFar 62 = .ok (.iload 8, 2) := by decide +kernel
theorem dX5_swingsTooFar_64 : decode cX5_swingsTooFar 64 = .ok (.iload_n 2, 1) := by decide +kernel
theorem dX5_swingsTooFar_65 : decode cX5_swingsTooFar 65 = .ok (.iload_n 3, 1) := by decide +kernel
theorem dX5_swingsTooFar_66 : decode cX5_swingsTooFar 66 = .ok (.iload 7, 2) := by decide +kernel
theorem dX5_swingsTooFar_68 : decode cX5_swingsTooFar 68 = .ok (.imul, 1) := by decide +kernel
theorem dX5_swingsTooFar_69 : decode cX5_swingsTooFar 69 = .ok (.isub, 1) := by decide +kernel
theorem dX5_swingsTooFar_70 : decode cX5_swingsTooFar 70 = .ok (.iload 4, 2) := by decide +kernel
theorem dX5_swingsTooFar_72 : decode cX5_swingsTooFar 72 = .ok (.iload 8, 2) := by decide +kernel
theorem dX5_swingsTooFar_74 : decode cX5_swingsTooFar 74 = .ok (.imul, 1) := by decide +kernel
theorem dX5_swingsTooFar_75 : decode cX5_swingsTooFar 75 = .ok (.isub, 1) := by decide +kernel
theorem dX5_swingsTooFar_76 : decode cX5_swingsTooFar 76 = .ok (.iload 5, 2) := by decide +kernel
theorem dX5_swingsTooFar_78 : decode cX5_swingsTooFar 78 = .ok (.idiv, 1) := by decide +kernel
theorem dX5_swingsTooFar_79 : decode cX5_swingsTooFar 79 = .ok (.iadd, 1) := by decide +kernel
theorem dX5_swingsTooFar_80 : decode cX5_swingsTooFar 80 = .ok (.istore 8, 2) := by decide +kernel
theorem dX5_swingsTooFar_82 : decode cX5_swingsTooFar 82 = .ok (.iload 7, 2) := by decide +kernel
theorem dX5_swingsTooFar_84 : decode cX5_swingsTooFar 84 = .ok (.iload 8, 2) := by decide +kernel
theorem dX5_swingsTooFar_86 : decode cX5_swingsTooFar 86 = .ok (.iadd, 1) := by decide +kernel
theorem dX5_swingsTooFar_87 : decode cX5_swingsTooFar 87 = .ok (.istore 7, 2) := by decide +kernel
theorem dX5_swingsTooFar_89 : decode cX5_swingsTooFar 89 = .ok (.iinc 11 1, 3) := by decide +kernel
theorem dX5_swingsTooFar_92 : decode cX5_swingsTooFar 92 = .ok (.iload 7, 2) := by decide +kernel
theorem dX5_swingsTooFar_94 : decode cX5_swingsTooFar 94 = .ok (.ifCond .ge 9, 3) := by decide +kernel
theorem dX5_swingsTooFar_97 : decode cX5_swingsTooFar 97 = .ok (.iload 7, 2) := by decide +kernel
theorem dX5_swingsTooFar_99 : decode cX5_swingsTooFar 99 = .ok (.ineg, 1) := by decide +kernel
theorem dX5_swingsTooFar_100 : decode cX5_swingsTooFar 100 = .ok (.goto 5, 3) := by decide +kernel
theorem dX5_swingsTooFar_103 : decode cX5_swingsTooFar 103 = .ok (.iload 7, 2) := by decide +kernel
theorem dX5_swingsTooFar_105 : decode cX5_swingsTooFar 105 = .ok (.istore 12, 2) := by decide +kernel
theorem dX5_swingsTooFar_107 : decode cX5_swingsTooFar 107 = .ok (.iload 12, 2) := by decide +kernel
theorem dX5_swingsTooFar_109 : decode cX5_swingsTooFar 109 = .ok (.iload 9, 2) := by decide +kernel
theorem dX5_swingsTooFar_111 : decode cX5_swingsTooFar 111 = .ok (.if_icmp .le 8, 3) := by decide +kernel
theorem dX5_swingsTooFar_114 : decode cX5_swingsTooFar 114 = .ok (.iload 12, 2) := by decide +kernel
theorem dX5_swingsTooFar_116 : decode cX5_swingsTooFar 116 = .ok (.goto 5, 3) := by decide +kernel
theorem dX5_swingsTooFar_119 : decode cX5_swingsTooFar 119 = .ok (.iload 9, 2) := by decide +kernel
theorem dX5_swingsTooFar_121 : decode cX5_swingsTooFar 121 = .ok (.istore 9, 2) := by decide +kernel
theorem dX5_swingsTooFar_123 : decode cX5_swingsTooFar 123 = .ok (.iload 12, 2) := by decide +kernel
theorem dX5_swingsTooFar_125 : decode cX5_swingsTooFar 125 = .ok (.iload 6, 2) := by decide +kernel
theorem dX5_swingsTooFar_127 : decode cX5_swingsTooFar 127 = .ok (.if_icmp .le 7, 3) := by decide +kernel
theorem dX5_swingsTooFar_130 : decode cX5_swingsTooFar 130 = .ok (.iconst 1, 1) := by decide +kernel
theorem dX5_swingsTooFar_131 : decode cX5_swingsTooFar 131 = .ok (.goto 4, 3) := by decide +kernel
theorem dX5_swingsTooFar_134 : decode cX5_swingsTooFar 134 = .ok (.iconst 0, 1) := by decide +kernel
theorem dX5_swingsTooFar_135 : decode cX5_swingsTooFar 135 = .ok (.istore 10, 2) := by decide +kernel
theorem dX5_swingsTooFar_137 : decode cX5_swingsTooFar 137 = .ok (.goto (-86), 3) := by decide +kernel
theorem dX5_swingsTooFar_140 : decode cX5_swingsTooFar 140 = .ok (.aload_n 0, 1) := by decide +kernel
theorem dX5_swingsTooFar_141 : decode cX5_swingsTooFar 141 = .ok (.iload 7, 2) := by decide +kernel
theorem dX5_swingsTooFar_143 : decode cX5_swingsTooFar 143 = .ok (.putfield 131, 3) := by decide +kernel
theorem dX5_swingsTooFar_146 : decode cX5_swingsTooFar 146 = .ok (.aload_n 0, 1) := by decide +kernel
theorem dX5_swingsTooFar_147 : decode cX5_swingsTooFar 147 = .ok (.iload 8, 2) := by decide +kernel
theorem dX5_swingsTooFar_149 : decode cX5_swingsTooFar 149 = .ok (.putfield 134, 3) := by decide +kernel
theorem dX5_swingsTooFar_152 : decode cX5_swingsTooFar 152 = .ok (.aload_n 0, 1) := by decide +kernel
theorem dX5_swingsTooFar_153 : decode cX5_swingsTooFar 153 = .ok (.iload 9, 2) := by decide +kernel
theorem dX5_swingsTooFar_155 : decode cX5_swingsTooFar 155 = .ok (.putfield 143, 3) := by decide +kernel
theorem dX5_swingsTooFar_158 : decode cX5_swingsTooFar 158 = .ok (.aload_n 0, 1) := by decide +kernel
theorem dX5_swingsTooFar_159 : decode cX5_swingsTooFar 159 = .ok (.dup, 1) := by decide +kernel
theorem dX5_swingsTooFar_160 : decode cX5_swingsTooFar 160 = .ok (.getfield 137, 3) := by decide +kernel
theorem dX5_swingsTooFar_163 : decode cX5_swingsTooFar 163 = .ok (.iload 11, 2) := by decide +kernel
theorem dX5_swingsTooFar_165 : decode cX5_swingsTooFar 165 = .ok (.iadd, 1) := by decide +kernel
theorem dX5_swingsTooFar_166 : decode cX5_swingsTooFar 166 = .ok (.putfield 137, 3) := by decide +kernel
theorem dX5_swingsTooFar_169 : decode cX5_swingsTooFar 169 = .ok (.iload 10, 2) := by decide +kernel
theorem dX5_swingsTooFar_171 : decode cX5_swingsTooFar 171 = .ok (.ireturn, 1) := by decide +kernel
set_option maxHeartbeats 4000000 in
set_option maxRecDepth 100000 in
theorem K_X5_swingsTooFar (l : Launch) (D : va_G) (xl : Nat) (xs : Nat) (la_t : Nat) (la_h : Nat) (la_u : Nat) (la_o : Nat) (la_x : Nat) (n : Nat) (fo : Nat) (wa : Nat) (we : Nat) (cI : ClassId) (l_ring : Int32) (l_speed : Int32) (l_feed : Int32) (l_turns : Int32) (l_teethSet : Int32) (l_teethMany : Int32) (l_wear : Int32) (l_x : Int32) (l_v : Int32) (l_wave : Int32) (l_time : Int32) (l_out : Int32) (l_farthest : Int32) (l_begun : Int32) (sv : Int32) (fo_ : Int32) (st_ : Int32) (dm_ : Int32) (sp : Nat) (hsv : sv = nI sp) (hsp : sp < 1000) (hok : sp_ok fo_ st_ dm_) (hxv : sp_xv l_x l_v) (sz : Nat) : Ki l yX5_swingsTooFar wsX5_swingsTooFar 1 40 0 0 D [.ref xl, .int sv, .int fo_, .int st_, .int dm_] [(xl, .inr (4, [.ref xs, .int l_ring, .int l_speed, .int l_feed, .int l_turns, .ref la_t, .int l_teethSet, .int l_teethMany, .ref la_h, .ref la_u, .ref la_o, .ref la_x, .int l_wear, .int l_x, .int l_v, .int l_wave, .int l_time, .int l_out, .int l_farthest, .int l_begun])), (xs, .inr (6, [.ref n, .ref fo, .ref wa, .ref we])), (n, .inl (cI, 36, .inl g_nums))] [(cI, .int)] sz (fun (r : Int32) (u : Int32 × Int32) => r = (if (sp_sw fo_ st_ dm_ l_x l_v sp).2.2 = true then 1 else 0)) (fun (u : Int32 × Int32) => [(xl, .inr (4, [.ref xs, .int l_ring, .int l_speed, .int l_feed, .int l_turns, .ref la_t, .int l_teethSet, .int l_teethMany, .ref la_h, .ref la_u, .ref la_o, .ref la_x, .int l_wear, .int ((sp_sw fo_ st_ dm_ l_x l_v sp).1), .int ((sp_sw fo_ st_ dm_ l_x l_v sp).2.1), .int l_wave, .int u.2, .int l_out, .int u.1, .int l_begun])), (xs, .inr (6, [.ref n, .ref fo, .ref wa, .ref we])), (n, .inl (cI, 36, .inl g_nums))]) (fun (_ : Int32 × Int32) => [(cI, .int)]) := by
  unfold Ki
  refine g_ofW (cc := cX5_swingsTooFar) (lv := [(0, .ref xl), (1, .int sv), (2, .int fo_), (3, .int st_), (4, .int dm_)]) (by decide) rfl (Nat.le_of_ble_eq_true rfl) rfl ?_
  intro p e s m args below meth c A Q hA hQ F hr hnm
  have hts := F.2.2.2.2.1
  have w_0 : (Cond.fieldLink RX5 29 "QuietCut$Lathe" "shop" "LQuietCut$Shop;").before args s = true := hts _ (List.mem_of_getElem? (i := 1) rfl)
  have i_X5 : ∀ w ∈ u_ws RX5 TX5 20, w ∈ wsX5_swingsTooFar := fun _ h => List.mem_cons_of_mem _ (List.mem_append_left _ (List.mem_append_right _ h))
  have w_1 : (Cond.fieldLink RX5 56 "QuietCut$Shop" "numbers" "[I").before args s = true := hts _ (List.mem_of_getElem? (i := 2) rfl)
  have i_X7 : ∀ w ∈ u_ws RX7 TX7 4, w ∈ wsX5_swingsTooFar := fun _ h => List.mem_cons_of_mem _ (List.mem_append_right _ h)
  have w_2 : (Cond.methodLink RX5 146 Lib.Math.max.name).before args s = true := hts _ (List.mem_of_getElem? (i := 3) rfl)
  have w_3 : (Cond.static Lib.Math.max.name).before args s = true := hts _ (List.mem_of_getElem? (i := 4) rfl)
  have w_4 : (Cond.initialized "java/lang/Math").before args s = true := hts _ (List.mem_of_getElem? (i := 5) rfl)
  have w_5 : (Cond.code Lib.Math.max.name Lib.Math.max.code 2 (some .int)).before args s = true := hts _ (List.mem_of_getElem? (i := 6) rfl)
  have w_6 : (Cond.fieldLink RX5 131 "QuietCut$Lathe" "x" "I").before args s = true := hts _ (List.mem_of_getElem? (i := 7) rfl)
  have w_7 : (Cond.fieldLink RX5 134 "QuietCut$Lathe" "v" "I").before args s = true := hts _ (List.mem_of_getElem? (i := 8) rfl)
  have w_8 : (Cond.fieldLink RX5 143 "QuietCut$Lathe" "farthest" "I").before args s = true := hts _ (List.mem_of_getElem? (i := 9) rfl)
  have w_9 : (Cond.fieldLink RX5 137 "QuietCut$Lathe" "time" "I").before args s = true := hts _ (List.mem_of_getElem? (i := 10) rfl)
  refine g_iconst F 1 dX5_swingsTooFar_0 (by decide) ?_
  refine g_aload_n F 0 dX5_swingsTooFar_1 rfl rfl ?_
  refine g_get (C := RX5) (T := TX5) (N := 20) (v := .ref xs) F i_X5 0 rfl rfl 0 (by decide) w_0 rfl rfl dX5_swingsTooFar_2 ?_
  refine g_get (C := RX7) (T := TX7) (N := 4) (v := .ref n) F i_X7 1 rfl rfl 0 (by decide) w_1 rfl rfl dX5_swingsTooFar_5 ?_
  refine g_iconst F 2 dX5_swingsTooFar_8 (by decide) ?_
  refine g_iald F 2 0 rfl rfl (by unfold vp_in; decide) dX5_swingsTooFar_9 ?_
  refine g_fold 4 (by rfl) ?_
  refine g_mmax F w_2 w_3 w_4 w_5 (Nat.le_of_ble_eq_true rfl) (Nat.le_of_ble_eq_true rfl) (Nat.le_of_ble_eq_true rfl) (Nat.le_of_ble_eq_true rfl) dX5_swingsTooFar_10 ?_
  refine g_fold 4 (by decide) ?_
  refine g_istore F [(5, .int 4), (0, .ref xl), (1, .int sv), (2, .int fo_), (3, .int st_), (4, .int dm_)] dX5_swingsTooFar_13 (by decide) rfl ?_
  refine g_aload_n F 1 dX5_swingsTooFar_15 rfl rfl ?_
  refine g_get (C := RX5) (T := TX5) (N := 20) (v := .ref xs) F i_X5 0 rfl rfl 0 (by decide) w_0 rfl rfl dX5_swingsTooFar_16 ?_
  refine g_get (C := RX7) (T := TX7) (N := 4) (v := .ref n) F i_X7 1 rfl rfl 0 (by decide) w_1 rfl rfl dX5_swingsTooFar_19 ?_
  refine g_bipush F 7 dX5_swingsTooFar_22 (by decide) ?_
  refine g_iald F 2 0 rfl rfl (by unfold vp_in; decide) dX5_swingsTooFar_24 ?_
  refine g_fold 500 (by rfl) ?_
  refine g_istore F [(6, .int 500), (5, .int 4), (0, .ref xl), (1, .int sv), (2, .int fo_), (3, .int st_), (4, .int dm_)] dX5_swingsTooFar_25 (by decide) rfl ?_
  refine g_aload_n F 2 dX5_swingsTooFar_27 rfl rfl ?_
  refine g_get (C := RX5) (T := TX5) (N := 20) (v := .int l_x) F i_X5 0 rfl rfl 13 (by decide) w_6 rfl rfl dX5_swingsTooFar_28 ?_
  refine g_istore F [(7, .int l_x), (6, .int 500), (5, .int 4), (0, .ref xl), (1, .int sv), (2, .int fo_), (3, .int st_), (4, .int dm_)] dX5_swingsTooFar_31 (by decide) rfl ?_
  refine g_aload_n F 3 dX5_swingsTooFar_33 rfl rfl ?_
  refine g_get (C := RX5) (T := TX5) (N := 20) (v := .int l_v) F i_X5 0 rfl rfl 14 (by decide) w_7 rfl rfl dX5_swingsTooFar_34 ?_
  refine g_istore F [(8, .int l_v), (7, .int l_x), (6, .int 500), (5, .int 4), (0, .ref xl), (1, .int sv), (2, .int fo_), (3, .int st_), (4, .int dm_)] dX5_swingsTooFar_37 (by decide) rfl ?_
  refine g_aload_n F 4 dX5_swingsTooFar_39 rfl rfl ?_
  refine g_get (C := RX5) (T := TX5) (N := 20) (v := .int l_farthest) F i_X5 0 rfl rfl 18 (by decide) w_8 rfl rfl dX5_swingsTooFar_40 ?_
  refine g_istore F [(9, .int l_farthest), (8, .int l_v), (7, .int l_x), (6, .int 500), (5, .int 4), (0, .ref xl), (1, .int sv), (2, .int fo_), (3, .int st_), (4, .int dm_)] dX5_swingsTooFar_43 (by decide) rfl ?_
  refine g_iconst F 0 dX5_swingsTooFar_45 (by decide) ?_
  refine g_istore F [(10, .int 0), (9, .int l_farthest), (8, .int l_v), (7, .int l_x), (6, .int 500), (5, .int 4), (0, .ref xl), (1, .int sv), (2, .int fo_), (3, .int st_), (4, .int dm_)] dX5_swingsTooFar_46 (by decide) rfl ?_
  refine g_iconst F 0 dX5_swingsTooFar_48 (by decide) ?_
  refine g_istore F [(11, .int 0), (10, .int 0), (9, .int l_farthest), (8, .int l_v), (7, .int l_x), (6, .int 500), (5, .int 4), (0, .ref xl), (1, .int sv), (2, .int fo_), (3, .int st_), (4, .int dm_)] dX5_swingsTooFar_49 (by decide) rfl ?_
  refine g_locals [(0, .ref xl), (1, .int sv), (2, .int fo_), (3, .int st_), (4, .int dm_), (5, .int 4), (6, .int 500), (7, .int l_x), (8, .int l_v), (9, .int l_farthest), (10, .int 0), (11, .int 0)] [7, 8, 9, 10, 11, 6, 5, 4, 3, 2, 1, 0] rfl ?_
  have loop_51 : ∀ (fuel : Nat) (d : Nat) (mo : Int32), sp - d < fuel → (d ≤ sp) → gG p l e (gR 1 0 0 40) s m args below meth c D A 13 Q 0 0 [(xl, .inr (4, [.ref xs, .int l_ring, .int l_speed, .int l_feed, .int l_turns, .ref la_t, .int l_teethSet, .int l_teethMany, .ref la_h, .ref la_u, .ref la_o, .ref la_x, .int l_wear, .int l_x, .int l_v, .int l_wave, .int l_time, .int l_out, .int l_farthest, .int l_begun])), (xs, .inr (6, [.ref n, .ref fo, .ref wa, .ref we])), (n, .inl (cI, 36, .inl g_nums))] [(cI, .int)] [(0, .ref xl), (1, .int sv), (2, .int fo_), (3, .int st_), (4, .int dm_), (5, .int 4), (6, .int 500), (7, .int ((sp_sw fo_ st_ dm_ l_x l_v d).1)), (8, .int ((sp_sw fo_ st_ dm_ l_x l_v d).2.1)), (9, .int mo), (10, .int (if (sp_sw fo_ st_ dm_ l_x l_v d).2.2 = true then 1 else 0)), (11, .int (nI d))] 51 [] := by
    intro fuel_51
    induction fuel_51 with
    | zero => intro d mo hm; exact absurd hm (Nat.not_lt_zero _)
    | succ fuel_51 ih_51 =>
      intro d mo hm51 hd0
      refine g_iload F 11 dX5_swingsTooFar_51 rfl ?_
      refine g_iload_n F 1 dX5_swingsTooFar_53 rfl rfl ?_
      refine g_icmp_ge F 140 dX5_swingsTooFar_54 (by decide) (fun c_54 => ?_) (fun c_54 => ?_)
      · have hd : sp = d := Nat.le_antisymm (Nat.le_of_not_lt (fun h => nI_ge h (by omega) (hsv ▸ c_54))) hd0
        subst hd
        refine g_aload_n F 0 dX5_swingsTooFar_140 rfl rfl ?_
        refine g_iload F 7 dX5_swingsTooFar_141 rfl ?_
        refine g_put (C := RX5) (T := TX5) (N := 20) (ty := .int) (v := .int ((sp_sw fo_ st_ dm_ l_x l_v sp).1)) F i_X5 0 rfl rfl 13 (by decide) w_6 rfl tyX5 tyX5_ok nmX5 rfl (by decide +kernel) rfl rfl (Nat.le_of_ble_eq_true rfl) [(xl, .inr (4, [.ref xs, .int l_ring, .int l_speed, .int l_feed, .int l_turns, .ref la_t, .int l_teethSet, .int l_teethMany, .ref la_h, .ref la_u, .ref la_o, .ref la_x, .int l_wear, .int ((sp_sw fo_ st_ dm_ l_x l_v sp).1), .int l_v, .int l_wave, .int l_time, .int l_out, .int l_farthest, .int l_begun])), (xs, .inr (6, [.ref n, .ref fo, .ref wa, .ref we])), (n, .inl (cI, 36, .inl g_nums))] rfl dX5_swingsTooFar_143 ?_
        refine g_aload_n F 0 dX5_swingsTooFar_146 rfl rfl ?_
        refine g_iload F 8 dX5_swingsTooFar_147 rfl ?_
        refine g_put (C := RX5) (T := TX5) (N := 20) (ty := .int) (v := .int ((sp_sw fo_ st_ dm_ l_x l_v sp).2.1)) F i_X5 0 rfl rfl 14 (by decide) w_7 rfl tyX5 tyX5_ok nmX5 rfl (by decide +kernel) rfl rfl (Nat.le_of_ble_eq_true rfl) [(xl, .inr (4, [.ref xs, .int l_ring, .int l_speed, .int l_feed, .int l_turns, .ref la_t, .int l_teethSet, .int l_teethMany, .ref la_h, .ref la_u, .ref la_o, .ref la_x, .int l_wear, .int ((sp_sw fo_ st_ dm_ l_x l_v sp).1), .int ((sp_sw fo_ st_ dm_ l_x l_v sp).2.1), .int l_wave, .int l_time, .int l_out, .int l_farthest, .int l_begun])), (xs, .inr (6, [.ref n, .ref fo, .ref wa, .ref we])), (n, .inl (cI, 36, .inl g_nums))] rfl dX5_swingsTooFar_149 ?_
        refine g_aload_n F 0 dX5_swingsTooFar_152 rfl rfl ?_
        refine g_iload F 9 dX5_swingsTooFar_153 rfl ?_
        refine g_put (C := RX5) (T := TX5) (N := 20) (ty := .int) (v := .int mo) F i_X5 0 rfl rfl 18 (by decide) w_8 rfl tyX5 tyX5_ok nmX5 rfl (by decide +kernel) rfl rfl (Nat.le_of_ble_eq_true rfl) [(xl, .inr (4, [.ref xs, .int l_ring, .int l_speed, .int l_feed, .int l_turns, .ref la_t, .int l_teethSet, .int l_teethMany, .ref la_h, .ref la_u, .ref la_o, .ref la_x, .int l_wear, .int ((sp_sw fo_ st_ dm_ l_x l_v sp).1), .int ((sp_sw fo_ st_ dm_ l_x l_v sp).2.1), .int l_wave, .int l_time, .int l_out, .int mo, .int l_begun])), (xs, .inr (6, [.ref n, .ref fo, .ref wa, .ref we])), (n, .inl (cI, 36, .inl g_nums))] rfl dX5_swingsTooFar_155 ?_
        refine g_aload_n F 0 dX5_swingsTooFar_158 rfl rfl ?_
        refine g_dup F dX5_swingsTooFar_159 rfl ?_
        refine g_get (C := RX5) (T := TX5) (N := 20) (v := .int l_time) F i_X5 0 rfl rfl 16 (by decide) w_9 rfl rfl dX5_swingsTooFar_160 ?_
        refine g_iload F 11 dX5_swingsTooFar_163 rfl ?_
        refine g_iadd F dX5_swingsTooFar_165 ?_
        refine g_put (C := RX5) (T := TX5) (N := 20) (ty := .int) (v := .int (l_time + (nI sp))) F i_X5 0 rfl rfl 16 (by decide) w_9 rfl tyX5 tyX5_ok nmX5 rfl (by decide +kernel) rfl rfl (Nat.le_of_ble_eq_true rfl) [(xl, .inr (4, [.ref xs, .int l_ring, .int l_speed, .int l_feed, .int l_turns, .ref la_t, .int l_teethSet, .int l_teethMany, .ref la_h, .ref la_u, .ref la_o, .ref la_x, .int l_wear, .int ((sp_sw fo_ st_ dm_ l_x l_v sp).1), .int ((sp_sw fo_ st_ dm_ l_x l_v sp).2.1), .int l_wave, .int (l_time + (nI sp)), .int l_out, .int mo, .int l_begun])), (xs, .inr (6, [.ref n, .ref fo, .ref wa, .ref we])), (n, .inl (cI, 36, .inl g_nums))] rfl dX5_swingsTooFar_166 ?_
        refine g_iload F 10 dX5_swingsTooFar_169 rfl ?_
        exact g_zret F hA hQ hr (by split <;> rfl) (mo, (l_time + (nI sp))) (rfl) [0, 1, 2] [0] rfl (by decide) rfl rfl dX5_swingsTooFar_171
      · have hd : d < sp := Nat.lt_of_not_le (fun h => c_54 (by rw [hsv]; exact nI_le h (by omega)))
        refine g_iload F 10 dX5_swingsTooFar_57 rfl ?_
        refine g_if_ne F 140 dX5_swingsTooFar_59 (by decide) (fun c_59 => ?_) (fun c_59 => ?_)
        · have c_59 := gb_n0 c_59
          obtain ⟨m9, hm9⟩ : ∃ m9, sp = d + m9 := ⟨sp - d, by omega⟩
          have hs9 := sp_sw_stop c_59 m9
          rw [← hm9] at hs9
          rw [← hs9]
          refine g_aload_n F 0 dX5_swingsTooFar_140 rfl rfl ?_
          refine g_iload F 7 dX5_swingsTooFar_141 rfl ?_
          refine g_put (C := RX5) (T := TX5) (N := 20) (ty := .int) (v := .int ((sp_sw fo_ st_ dm_ l_x l_v sp).1)) F i_X5 0 rfl rfl 13 (by decide) w_6 rfl tyX5 tyX5_ok nmX5 rfl (by decide +kernel) rfl rfl (Nat.le_of_ble_eq_true rfl) [(xl, .inr (4, [.ref xs, .int l_ring, .int l_speed, .int l_feed, .int l_turns, .ref la_t, .int l_teethSet, .int l_teethMany, .ref la_h, .ref la_u, .ref la_o, .ref la_x, .int l_wear, .int ((sp_sw fo_ st_ dm_ l_x l_v sp).1), .int l_v, .int l_wave, .int l_time, .int l_out, .int l_farthest, .int l_begun])), (xs, .inr (6, [.ref n, .ref fo, .ref wa, .ref we])), (n, .inl (cI, 36, .inl g_nums))] rfl dX5_swingsTooFar_143 ?_
          refine g_aload_n F 0 dX5_swingsTooFar_146 rfl rfl ?_
          refine g_iload F 8 dX5_swingsTooFar_147 rfl ?_
          refine g_put (C := RX5) (T := TX5) (N := 20) (ty := .int) (v := .int ((sp_sw fo_ st_ dm_ l_x l_v sp).2.1)) F i_X5 0 rfl rfl 14 (by decide) w_7 rfl tyX5 tyX5_ok nmX5 rfl (by decide +kernel) rfl rfl (Nat.le_of_ble_eq_true rfl) [(xl, .inr (4, [.ref xs, .int l_ring, .int l_speed, .int l_feed, .int l_turns, .ref la_t, .int l_teethSet, .int l_teethMany, .ref la_h, .ref la_u, .ref la_o, .ref la_x, .int l_wear, .int ((sp_sw fo_ st_ dm_ l_x l_v sp).1), .int ((sp_sw fo_ st_ dm_ l_x l_v sp).2.1), .int l_wave, .int l_time, .int l_out, .int l_farthest, .int l_begun])), (xs, .inr (6, [.ref n, .ref fo, .ref wa, .ref we])), (n, .inl (cI, 36, .inl g_nums))] rfl dX5_swingsTooFar_149 ?_
          refine g_aload_n F 0 dX5_swingsTooFar_152 rfl rfl ?_
          refine g_iload F 9 dX5_swingsTooFar_153 rfl ?_
          refine g_put (C := RX5) (T := TX5) (N := 20) (ty := .int) (v := .int mo) F i_X5 0 rfl rfl 18 (by decide) w_8 rfl tyX5 tyX5_ok nmX5 rfl (by decide +kernel) rfl rfl (Nat.le_of_ble_eq_true rfl) [(xl, .inr (4, [.ref xs, .int l_ring, .int l_speed, .int l_feed, .int l_turns, .ref la_t, .int l_teethSet, .int l_teethMany, .ref la_h, .ref la_u, .ref la_o, .ref la_x, .int l_wear, .int ((sp_sw fo_ st_ dm_ l_x l_v sp).1), .int ((sp_sw fo_ st_ dm_ l_x l_v sp).2.1), .int l_wave, .int l_time, .int l_out, .int mo, .int l_begun])), (xs, .inr (6, [.ref n, .ref fo, .ref wa, .ref we])), (n, .inl (cI, 36, .inl g_nums))] rfl dX5_swingsTooFar_155 ?_
          refine g_aload_n F 0 dX5_swingsTooFar_158 rfl rfl ?_
          refine g_dup F dX5_swingsTooFar_159 rfl ?_
          refine g_get (C := RX5) (T := TX5) (N := 20) (v := .int l_time) F i_X5 0 rfl rfl 16 (by decide) w_9 rfl rfl dX5_swingsTooFar_160 ?_
          refine g_iload F 11 dX5_swingsTooFar_163 rfl ?_
          refine g_iadd F dX5_swingsTooFar_165 ?_
          refine g_put (C := RX5) (T := TX5) (N := 20) (ty := .int) (v := .int (l_time + (nI d))) F i_X5 0 rfl rfl 16 (by decide) w_9 rfl tyX5 tyX5_ok nmX5 rfl (by decide +kernel) rfl rfl (Nat.le_of_ble_eq_true rfl) [(xl, .inr (4, [.ref xs, .int l_ring, .int l_speed, .int l_feed, .int l_turns, .ref la_t, .int l_teethSet, .int l_teethMany, .ref la_h, .ref la_u, .ref la_o, .ref la_x, .int l_wear, .int ((sp_sw fo_ st_ dm_ l_x l_v sp).1), .int ((sp_sw fo_ st_ dm_ l_x l_v sp).2.1), .int l_wave, .int (l_time + (nI d)), .int l_out, .int mo, .int l_begun])), (xs, .inr (6, [.ref n, .ref fo, .ref wa, .ref we])), (n, .inl (cI, 36, .inl g_nums))] rfl dX5_swingsTooFar_166 ?_
          refine g_iload F 10 dX5_swingsTooFar_169 rfl ?_
          exact g_zret F hA hQ hr (by split <;> rfl) (mo, (l_time + (nI d))) (rfl) [0, 1, 2] [0] rfl (by decide) rfl rfl dX5_swingsTooFar_171
        · have c_59 := gb_0 c_59
          have h1 := sp_sw1 c_59
          have hbd := sp_sw_bd hok hxv (d + 1)
          obtain ⟨hb1, hb2, -⟩ := hbd
          refine g_iload F 8 dX5_swingsTooFar_62 rfl ?_
          refine g_iload_n F 2 dX5_swingsTooFar_64 rfl rfl ?_
          refine g_iload_n F 3 dX5_swingsTooFar_65 rfl rfl ?_
          refine g_iload F 7 dX5_swingsTooFar_66 rfl ?_
          refine g_imul F dX5_swingsTooFar_68 ?_
          refine g_isub F dX5_swingsTooFar_69 ?_
          refine g_iload F 4 dX5_swingsTooFar_70 rfl ?_
          refine g_iload F 8 dX5_swingsTooFar_72 rfl ?_
          refine g_imul F dX5_swingsTooFar_74 ?_
          refine g_isub F dX5_swingsTooFar_75 ?_
          refine g_iload F 5 dX5_swingsTooFar_76 rfl ?_
          refine g_idiv F dX5_swingsTooFar_78 (by decide) ?_
          refine g_iadd F dX5_swingsTooFar_79 ?_
          refine g_fold ((sp_sw fo_ st_ dm_ l_x l_v (d + 1)).2.1) (h1.1.symm) ?_
          refine g_istore F [(8, .int ((sp_sw fo_ st_ dm_ l_x l_v (d + 1)).2.1)), (0, .ref xl), (1, .int sv), (2, .int fo_), (3, .int st_), (4, .int dm_), (5, .int 4), (6, .int 500), (7, .int ((sp_sw fo_ st_ dm_ l_x l_v d).1)), (9, .int mo), (10, .int (if (sp_sw fo_ st_ dm_ l_x l_v d).2.2 = true then 1 else 0)), (11, .int (nI d))] dX5_swingsTooFar_80 (by decide) rfl ?_
          refine g_iload F 8 dX5_swingsTooFar_82 rfl ?_
          refine g_iload F 0 dX5_swingsTooFar_84 rfl ?_
          refine g_iadd F dX5_swingsTooFar_86 ?_
          refine g_fold ((sp_sw fo_ st_ dm_ l_x l_v (d + 1)).1) (h1.2.1.symm) ?_
          refine g_istore F [(7, .int ((sp_sw fo_ st_ dm_ l_x l_v (d + 1)).1)), (8, .int ((sp_sw fo_ st_ dm_ l_x l_v (d + 1)).2.1)), (0, .ref xl), (1, .int sv), (2, .int fo_), (3, .int st_), (4, .int dm_), (5, .int 4), (6, .int 500), (9, .int mo), (10, .int (if (sp_sw fo_ st_ dm_ l_x l_v d).2.2 = true then 1 else 0)), (11, .int (nI d))] dX5_swingsTooFar_87 (by decide) rfl ?_
          refine g_iinc F (j := 11) (nI (d + 1)) [(11, .int (nI (d + 1))), (7, .int ((sp_sw fo_ st_ dm_ l_x l_v (d + 1)).1)), (8, .int ((sp_sw fo_ st_ dm_ l_x l_v (d + 1)).2.1)), (0, .ref xl), (1, .int sv), (2, .int fo_), (3, .int st_), (4, .int dm_), (5, .int 4), (6, .int 500), (9, .int mo), (10, .int (if (sp_sw fo_ st_ dm_ l_x l_v d).2.2 = true then 1 else 0))] dX5_swingsTooFar_89 rfl (nI_1 d) (by decide) rfl ?_
          refine g_iload F 1 dX5_swingsTooFar_92 rfl ?_
          refine g_if_ge F 103 dX5_swingsTooFar_94 (by decide) (fun c_94 => ?_) (fun c_94 => ?_)
          · refine g_iload F 1 dX5_swingsTooFar_103 rfl ?_
            refine g_istore F [(12, .int ((sp_sw fo_ st_ dm_ l_x l_v (d + 1)).1)), (11, .int (nI (d + 1))), (7, .int ((sp_sw fo_ st_ dm_ l_x l_v (d + 1)).1)), (8, .int ((sp_sw fo_ st_ dm_ l_x l_v (d + 1)).2.1)), (0, .ref xl), (1, .int sv), (2, .int fo_), (3, .int st_), (4, .int dm_), (5, .int 4), (6, .int 500), (9, .int mo), (10, .int (if (sp_sw fo_ st_ dm_ l_x l_v d).2.2 = true then 1 else 0))] dX5_swingsTooFar_105 (by decide) rfl ?_
            refine g_iload F 0 dX5_swingsTooFar_107 rfl ?_
            refine g_iload F 11 dX5_swingsTooFar_109 rfl ?_
            refine g_icmp_le F 119 dX5_swingsTooFar_111 (by decide) (fun c_111 => ?_) (fun c_111 => ?_)
            · refine g_iload F 11 dX5_swingsTooFar_119 rfl ?_
              refine g_istore F [(9, .int mo), (12, .int ((sp_sw fo_ st_ dm_ l_x l_v (d + 1)).1)), (11, .int (nI (d + 1))), (7, .int ((sp_sw fo_ st_ dm_ l_x l_v (d + 1)).1)), (8, .int ((sp_sw fo_ st_ dm_ l_x l_v (d + 1)).2.1)), (0, .ref xl), (1, .int sv), (2, .int fo_), (3, .int st_), (4, .int dm_), (5, .int 4), (6, .int 500), (10, .int (if (sp_sw fo_ st_ dm_ l_x l_v d).2.2 = true then 1 else 0))] dX5_swingsTooFar_121 (by decide) rfl ?_
              refine g_iload F 1 dX5_swingsTooFar_123 rfl ?_
              refine g_iload F 11 dX5_swingsTooFar_125 rfl ?_
              refine g_icmp_le F 134 dX5_swingsTooFar_127 (by decide) (fun c_127 => ?_) (fun c_127 => ?_)
              · refine g_iconst F 0 dX5_swingsTooFar_134 (by decide) ?_
                refine g_fold (if (sp_sw fo_ st_ dm_ l_x l_v (d + 1)).2.2 = true then 1 else 0) ((gi_e (fun q => absurd (h1.2.2.mp q) (by have hn9 := gz_neg (a := ((sp_sw fo_ st_ dm_ l_x l_v (d + 1)).1)) (by omega); simp only [Int32.lt_iff_toInt_lt, Int32.le_iff_toInt_le, ← Int32.toInt_inj, Int32.reduceToInt, hn9] at c_94 c_127 ⊢; omega)) rfl)) ?_
                refine g_istore F [(10, .int (if (sp_sw fo_ st_ dm_ l_x l_v (d + 1)).2.2 = true then 1 else 0)), (9, .int mo), (12, .int ((sp_sw fo_ st_ dm_ l_x l_v (d + 1)).1)), (11, .int (nI (d + 1))), (7, .int ((sp_sw fo_ st_ dm_ l_x l_v (d + 1)).1)), (8, .int ((sp_sw fo_ st_ dm_ l_x l_v (d + 1)).2.1)), (0, .ref xl), (1, .int sv), (2, .int fo_), (3, .int st_), (4, .int dm_), (5, .int 4), (6, .int 500)] dX5_swingsTooFar_135 (by decide) rfl ?_
                refine g_goto F 51 dX5_swingsTooFar_137 (by decide) ?_
                refine g_locals [(0, .ref xl), (1, .int sv), (2, .int fo_), (3, .int st_), (4, .int dm_), (5, .int 4), (6, .int 500), (7, .int ((sp_sw fo_ st_ dm_ l_x l_v (d + 1)).1)), (8, .int ((sp_sw fo_ st_ dm_ l_x l_v (d + 1)).2.1)), (9, .int mo), (10, .int (if (sp_sw fo_ st_ dm_ l_x l_v (d + 1)).2.2 = true then 1 else 0)), (11, .int (nI (d + 1)))] [6, 7, 8, 9, 10, 11, 12, 4, 5, 1, 0, 3] rfl ?_
                exact ih_51 (d + 1) mo (by omega) (hd)
              · refine g_iconst F 1 dX5_swingsTooFar_130 (by decide) ?_
                refine g_fold (if (sp_sw fo_ st_ dm_ l_x l_v (d + 1)).2.2 = true then 1 else 0) ((gi_p (h1.2.2.mpr (by have hn9 := gz_neg (a := ((sp_sw fo_ st_ dm_ l_x l_v (d + 1)).1)) (by omega); simp only [Int32.lt_iff_toInt_lt, Int32.le_iff_toInt_le, ← Int32.toInt_inj, Int32.reduceToInt, hn9] at c_94 c_127 ⊢; omega)) rfl)) ?_
                refine g_goto F 135 dX5_swingsTooFar_131 (by decide) ?_
                refine g_istore F [(10, .int (if (sp_sw fo_ st_ dm_ l_x l_v (d + 1)).2.2 = true then 1 else 0)), (9, .int mo), (12, .int ((sp_sw fo_ st_ dm_ l_x l_v (d + 1)).1)), (11, .int (nI (d + 1))), (7, .int ((sp_sw fo_ st_ dm_ l_x l_v (d + 1)).1)), (8, .int ((sp_sw fo_ st_ dm_ l_x l_v (d + 1)).2.1)), (0, .ref xl), (1, .int sv), (2, .int fo_), (3, .int st_), (4, .int dm_), (5, .int 4), (6, .int 500)] dX5_swingsTooFar_135 (by decide) rfl ?_
                refine g_goto F 51 dX5_swingsTooFar_137 (by decide) ?_
                refine g_locals [(0, .ref xl), (1, .int sv), (2, .int fo_), (3, .int st_), (4, .int dm_), (5, .int 4), (6, .int 500), (7, .int ((sp_sw fo_ st_ dm_ l_x l_v (d + 1)).1)), (8, .int ((sp_sw fo_ st_ dm_ l_x l_v (d + 1)).2.1)), (9, .int mo), (10, .int (if (sp_sw fo_ st_ dm_ l_x l_v (d + 1)).2.2 = true then 1 else 0)), (11, .int (nI (d + 1)))] [6, 7, 8, 9, 10, 11, 12, 4, 5, 1, 0, 3] rfl ?_
                exact ih_51 (d + 1) mo (by omega) (hd)
            · refine g_iload F 0 dX5_swingsTooFar_114 rfl ?_
              refine g_goto F 121 dX5_swingsTooFar_116 (by decide) ?_
              refine g_istore F [(9, .int ((sp_sw fo_ st_ dm_ l_x l_v (d + 1)).1)), (12, .int ((sp_sw fo_ st_ dm_ l_x l_v (d + 1)).1)), (11, .int (nI (d + 1))), (7, .int ((sp_sw fo_ st_ dm_ l_x l_v (d + 1)).1)), (8, .int ((sp_sw fo_ st_ dm_ l_x l_v (d + 1)).2.1)), (0, .ref xl), (1, .int sv), (2, .int fo_), (3, .int st_), (4, .int dm_), (5, .int 4), (6, .int 500), (10, .int (if (sp_sw fo_ st_ dm_ l_x l_v d).2.2 = true then 1 else 0))] dX5_swingsTooFar_121 (by decide) rfl ?_
              refine g_iload F 1 dX5_swingsTooFar_123 rfl ?_
              refine g_iload F 11 dX5_swingsTooFar_125 rfl ?_
              refine g_icmp_le F 134 dX5_swingsTooFar_127 (by decide) (fun c_127 => ?_) (fun c_127 => ?_)
              · refine g_iconst F 0 dX5_swingsTooFar_134 (by decide) ?_
                refine g_fold (if (sp_sw fo_ st_ dm_ l_x l_v (d + 1)).2.2 = true then 1 else 0) ((gi_e (fun q => absurd (h1.2.2.mp q) (by have hn9 := gz_neg (a := ((sp_sw fo_ st_ dm_ l_x l_v (d + 1)).1)) (by omega); simp only [Int32.lt_iff_toInt_lt, Int32.le_iff_toInt_le, ← Int32.toInt_inj, Int32.reduceToInt, hn9] at c_94 c_127 ⊢; omega)) rfl)) ?_
                refine g_istore F [(10, .int (if (sp_sw fo_ st_ dm_ l_x l_v (d + 1)).2.2 = true then 1 else 0)), (9, .int ((sp_sw fo_ st_ dm_ l_x l_v (d + 1)).1)), (12, .int ((sp_sw fo_ st_ dm_ l_x l_v (d + 1)).1)), (11, .int (nI (d + 1))), (7, .int ((sp_sw fo_ st_ dm_ l_x l_v (d + 1)).1)), (8, .int ((sp_sw fo_ st_ dm_ l_x l_v (d + 1)).2.1)), (0, .ref xl), (1, .int sv), (2, .int fo_), (3, .int st_), (4, .int dm_), (5, .int 4), (6, .int 500)] dX5_swingsTooFar_135 (by decide) rfl ?_
                refine g_goto F 51 dX5_swingsTooFar_137 (by decide) ?_
                refine g_locals [(0, .ref xl), (1, .int sv), (2, .int fo_), (3, .int st_), (4, .int dm_), (5, .int 4), (6, .int 500), (7, .int ((sp_sw fo_ st_ dm_ l_x l_v (d + 1)).1)), (8, .int ((sp_sw fo_ st_ dm_ l_x l_v (d + 1)).2.1)), (9, .int ((sp_sw fo_ st_ dm_ l_x l_v (d + 1)).1)), (10, .int (if (sp_sw fo_ st_ dm_ l_x l_v (d + 1)).2.2 = true then 1 else 0)), (11, .int (nI (d + 1)))] [6, 7, 8, 9, 10, 11, 12, 4, 5, 1, 0, 3] rfl ?_
                exact ih_51 (d + 1) ((sp_sw fo_ st_ dm_ l_x l_v (d + 1)).1) (by omega) (hd)
              · refine g_iconst F 1 dX5_swingsTooFar_130 (by decide) ?_
                refine g_fold (if (sp_sw fo_ st_ dm_ l_x l_v (d + 1)).2.2 = true then 1 else 0) ((gi_p (h1.2.2.mpr (by have hn9 := gz_neg (a := ((sp_sw fo_ st_ dm_ l_x l_v (d + 1)).1)) (by omega); simp only [Int32.lt_iff_toInt_lt, Int32.le_iff_toInt_le, ← Int32.toInt_inj, Int32.reduceToInt, hn9] at c_94 c_127 ⊢; omega)) rfl)) ?_
                refine g_goto F 135 dX5_swingsTooFar_131 (by decide) ?_
                refine g_istore F [(10, .int (if (sp_sw fo_ st_ dm_ l_x l_v (d + 1)).2.2 = true then 1 else 0)), (9, .int ((sp_sw fo_ st_ dm_ l_x l_v (d + 1)).1)), (12, .int ((sp_sw fo_ st_ dm_ l_x l_v (d + 1)).1)), (11, .int (nI (d + 1))), (7, .int ((sp_sw fo_ st_ dm_ l_x l_v (d + 1)).1)), (8, .int ((sp_sw fo_ st_ dm_ l_x l_v (d + 1)).2.1)), (0, .ref xl), (1, .int sv), (2, .int fo_), (3, .int st_), (4, .int dm_), (5, .int 4), (6, .int 500)] dX5_swingsTooFar_135 (by decide) rfl ?_
                refine g_goto F 51 dX5_swingsTooFar_137 (by decide) ?_
                refine g_locals [(0, .ref xl), (1, .int sv), (2, .int fo_), (3, .int st_), (4, .int dm_), (5, .int 4), (6, .int 500), (7, .int ((sp_sw fo_ st_ dm_ l_x l_v (d + 1)).1)), (8, .int ((sp_sw fo_ st_ dm_ l_x l_v (d + 1)).2.1)), (9, .int ((sp_sw fo_ st_ dm_ l_x l_v (d + 1)).1)), (10, .int (if (sp_sw fo_ st_ dm_ l_x l_v (d + 1)).2.2 = true then 1 else 0)), (11, .int (nI (d + 1)))] [6, 7, 8, 9, 10, 11, 12, 4, 5, 1, 0, 3] rfl ?_
                exact ih_51 (d + 1) ((sp_sw fo_ st_ dm_ l_x l_v (d + 1)).1) (by omega) (hd)
          · refine g_iload F 1 dX5_swingsTooFar_97 rfl ?_
            refine g_ineg F dX5_swingsTooFar_99 ?_
            refine g_goto F 105 dX5_swingsTooFar_100 (by decide) ?_
            refine g_istore F [(12, .int (-((sp_sw fo_ st_ dm_ l_x l_v (d + 1)).1))), (11, .int (nI (d + 1))), (7, .int ((sp_sw fo_ st_ dm_ l_x l_v (d + 1)).1)), (8, .int ((sp_sw fo_ st_ dm_ l_x l_v (d + 1)).2.1)), (0, .ref xl), (1, .int sv), (2, .int fo_), (3, .int st_), (4, .int dm_), (5, .int 4), (6, .int 500), (9, .int mo), (10, .int (if (sp_sw fo_ st_ dm_ l_x l_v d).2.2 = true then 1 else 0))] dX5_swingsTooFar_105 (by decide) rfl ?_
            refine g_iload F 0 dX5_swingsTooFar_107 rfl ?_
            refine g_iload F 11 dX5_swingsTooFar_109 rfl ?_
            refine g_icmp_le F 119 dX5_swingsTooFar_111 (by decide) (fun c_111 => ?_) (fun c_111 => ?_)
            · refine g_iload F 11 dX5_swingsTooFar_119 rfl ?_
              refine g_istore F [(9, .int mo), (12, .int (-((sp_sw fo_ st_ dm_ l_x l_v (d + 1)).1))), (11, .int (nI (d + 1))), (7, .int ((sp_sw fo_ st_ dm_ l_x l_v (d + 1)).1)), (8, .int ((sp_sw fo_ st_ dm_ l_x l_v (d + 1)).2.1)), (0, .ref xl), (1, .int sv), (2, .int fo_), (3, .int st_), (4, .int dm_), (5, .int 4), (6, .int 500), (10, .int (if (sp_sw fo_ st_ dm_ l_x l_v d).2.2 = true then 1 else 0))] dX5_swingsTooFar_121 (by decide) rfl ?_
              refine g_iload F 1 dX5_swingsTooFar_123 rfl ?_
              refine g_iload F 11 dX5_swingsTooFar_125 rfl ?_
              refine g_icmp_le F 134 dX5_swingsTooFar_127 (by decide) (fun c_127 => ?_) (fun c_127 => ?_)
              · refine g_iconst F 0 dX5_swingsTooFar_134 (by decide) ?_
                refine g_fold (if (sp_sw fo_ st_ dm_ l_x l_v (d + 1)).2.2 = true then 1 else 0) ((gi_e (fun q => absurd (h1.2.2.mp q) (by have hn9 := gz_neg (a := ((sp_sw fo_ st_ dm_ l_x l_v (d + 1)).1)) (by omega); simp only [Int32.lt_iff_toInt_lt, Int32.le_iff_toInt_le, ← Int32.toInt_inj, Int32.reduceToInt, hn9] at c_94 c_127 ⊢; omega)) rfl)) ?_
                refine g_istore F [(10, .int (if (sp_sw fo_ st_ dm_ l_x l_v (d + 1)).2.2 = true then 1 else 0)), (9, .int mo), (12, .int (-((sp_sw fo_ st_ dm_ l_x l_v (d + 1)).1))), (11, .int (nI (d + 1))), (7, .int ((sp_sw fo_ st_ dm_ l_x l_v (d + 1)).1)), (8, .int ((sp_sw fo_ st_ dm_ l_x l_v (d + 1)).2.1)), (0, .ref xl), (1, .int sv), (2, .int fo_), (3, .int st_), (4, .int dm_), (5, .int 4), (6, .int 500)] dX5_swingsTooFar_135 (by decide) rfl ?_
                refine g_goto F 51 dX5_swingsTooFar_137 (by decide) ?_
                refine g_locals [(0, .ref xl), (1, .int sv), (2, .int fo_), (3, .int st_), (4, .int dm_), (5, .int 4), (6, .int 500), (7, .int ((sp_sw fo_ st_ dm_ l_x l_v (d + 1)).1)), (8, .int ((sp_sw fo_ st_ dm_ l_x l_v (d + 1)).2.1)), (9, .int mo), (10, .int (if (sp_sw fo_ st_ dm_ l_x l_v (d + 1)).2.2 = true then 1 else 0)), (11, .int (nI (d + 1)))] [6, 7, 8, 9, 10, 11, 12, 4, 5, 1, 0, 3] rfl ?_
                exact ih_51 (d + 1) mo (by omega) (hd)
              · refine g_iconst F 1 dX5_swingsTooFar_130 (by decide) ?_
                refine g_fold (if (sp_sw fo_ st_ dm_ l_x l_v (d + 1)).2.2 = true then 1 else 0) ((gi_p (h1.2.2.mpr (by have hn9 := gz_neg (a := ((sp_sw fo_ st_ dm_ l_x l_v (d + 1)).1)) (by omega); simp only [Int32.lt_iff_toInt_lt, Int32.le_iff_toInt_le, ← Int32.toInt_inj, Int32.reduceToInt, hn9] at c_94 c_127 ⊢; omega)) rfl)) ?_
                refine g_goto F 135 dX5_swingsTooFar_131 (by decide) ?_
                refine g_istore F [(10, .int (if (sp_sw fo_ st_ dm_ l_x l_v (d + 1)).2.2 = true then 1 else 0)), (9, .int mo), (12, .int (-((sp_sw fo_ st_ dm_ l_x l_v (d + 1)).1))), (11, .int (nI (d + 1))), (7, .int ((sp_sw fo_ st_ dm_ l_x l_v (d + 1)).1)), (8, .int ((sp_sw fo_ st_ dm_ l_x l_v (d + 1)).2.1)), (0, .ref xl), (1, .int sv), (2, .int fo_), (3, .int st_), (4, .int dm_), (5, .int 4), (6, .int 500)] dX5_swingsTooFar_135 (by decide) rfl ?_
                refine g_goto F 51 dX5_swingsTooFar_137 (by decide) ?_
                refine g_locals [(0, .ref xl), (1, .int sv), (2, .int fo_), (3, .int st_), (4, .int dm_), (5, .int 4), (6, .int 500), (7, .int ((sp_sw fo_ st_ dm_ l_x l_v (d + 1)).1)), (8, .int ((sp_sw fo_ st_ dm_ l_x l_v (d + 1)).2.1)), (9, .int mo), (10, .int (if (sp_sw fo_ st_ dm_ l_x l_v (d + 1)).2.2 = true then 1 else 0)), (11, .int (nI (d + 1)))] [6, 7, 8, 9, 10, 11, 12, 4, 5, 1, 0, 3] rfl ?_
                exact ih_51 (d + 1) mo (by omega) (hd)
            · refine g_iload F 0 dX5_swingsTooFar_114 rfl ?_
              refine g_goto F 121 dX5_swingsTooFar_116 (by decide) ?_
              refine g_istore F [(9, .int (-((sp_sw fo_ st_ dm_ l_x l_v (d + 1)).1))), (12, .int (-((sp_sw fo_ st_ dm_ l_x l_v (d + 1)).1))), (11, .int (nI (d + 1))), (7, .int ((sp_sw fo_ st_ dm_ l_x l_v (d + 1)).1)), (8, .int ((sp_sw fo_ st_ dm_ l_x l_v (d + 1)).2.1)), (0, .ref xl), (1, .int sv), (2, .int fo_), (3, .int st_), (4, .int dm_), (5, .int 4), (6, .int 500), (10, .int (if (sp_sw fo_ st_ dm_ l_x l_v d).2.2 = true then 1 else 0))] dX5_swingsTooFar_121 (by decide) rfl ?_
              refine g_iload F 1 dX5_swingsTooFar_123 rfl ?_
              refine g_iload F 11 dX5_swingsTooFar_125 rfl ?_
              refine g_icmp_le F 134 dX5_swingsTooFar_127 (by decide) (fun c_127 => ?_) (fun c_127 => ?_)
              · refine g_iconst F 0 dX5_swingsTooFar_134 (by decide) ?_
                refine g_fold (if (sp_sw fo_ st_ dm_ l_x l_v (d + 1)).2.2 = true then 1 else 0) ((gi_e (fun q => absurd (h1.2.2.mp q) (by have hn9 := gz_neg (a := ((sp_sw fo_ st_ dm_ l_x l_v (d + 1)).1)) (by omega); simp only [Int32.lt_iff_toInt_lt, Int32.le_iff_toInt_le, ← Int32.toInt_inj, Int32.reduceToInt, hn9] at c_94 c_127 ⊢; omega)) rfl)) ?_
                refine g_istore F [(10, .int (if (sp_sw fo_ st_ dm_ l_x l_v (d + 1)).2.2 = true then 1 else 0)), (9, .int (-((sp_sw fo_ st_ dm_ l_x l_v (d + 1)).1))), (12, .int (-((sp_sw fo_ st_ dm_ l_x l_v (d + 1)).1))), (11, .int (nI (d + 1))), (7, .int ((sp_sw fo_ st_ dm_ l_x l_v (d + 1)).1)), (8, .int ((sp_sw fo_ st_ dm_ l_x l_v (d + 1)).2.1)), (0, .ref xl), (1, .int sv), (2, .int fo_), (3, .int st_), (4, .int dm_), (5, .int 4), (6, .int 500)] dX5_swingsTooFar_135 (by decide) rfl ?_
                refine g_goto F 51 dX5_swingsTooFar_137 (by decide) ?_
                refine g_locals [(0, .ref xl), (1, .int sv), (2, .int fo_), (3, .int st_), (4, .int dm_), (5, .int 4), (6, .int 500), (7, .int ((sp_sw fo_ st_ dm_ l_x l_v (d + 1)).1)), (8, .int ((sp_sw fo_ st_ dm_ l_x l_v (d + 1)).2.1)), (9, .int (-((sp_sw fo_ st_ dm_ l_x l_v (d + 1)).1))), (10, .int (if (sp_sw fo_ st_ dm_ l_x l_v (d + 1)).2.2 = true then 1 else 0)), (11, .int (nI (d + 1)))] [6, 7, 8, 9, 10, 11, 12, 4, 5, 1, 0, 3] rfl ?_
                exact ih_51 (d + 1) (-((sp_sw fo_ st_ dm_ l_x l_v (d + 1)).1)) (by omega) (hd)
              · refine g_iconst F 1 dX5_swingsTooFar_130 (by decide) ?_
                refine g_fold (if (sp_sw fo_ st_ dm_ l_x l_v (d + 1)).2.2 = true then 1 else 0) ((gi_p (h1.2.2.mpr (by have hn9 := gz_neg (a := ((sp_sw fo_ st_ dm_ l_x l_v (d + 1)).1)) (by omega); simp only [Int32.lt_iff_toInt_lt, Int32.le_iff_toInt_le, ← Int32.toInt_inj, Int32.reduceToInt, hn9] at c_94 c_127 ⊢; omega)) rfl)) ?_
                refine g_goto F 135 dX5_swingsTooFar_131 (by decide) ?_
                refine g_istore F [(10, .int (if (sp_sw fo_ st_ dm_ l_x l_v (d + 1)).2.2 = true then 1 else 0)), (9, .int (-((sp_sw fo_ st_ dm_ l_x l_v (d + 1)).1))), (12, .int (-((sp_sw fo_ st_ dm_ l_x l_v (d + 1)).1))), (11, .int (nI (d + 1))), (7, .int ((sp_sw fo_ st_ dm_ l_x l_v (d + 1)).1)), (8, .int ((sp_sw fo_ st_ dm_ l_x l_v (d + 1)).2.1)), (0, .ref xl), (1, .int sv), (2, .int fo_), (3, .int st_), (4, .int dm_), (5, .int 4), (6, .int 500)] dX5_swingsTooFar_135 (by decide) rfl ?_
                refine g_goto F 51 dX5_swingsTooFar_137 (by decide) ?_
                refine g_locals [(0, .ref xl), (1, .int sv), (2, .int fo_), (3, .int st_), (4, .int dm_), (5, .int 4), (6, .int 500), (7, .int ((sp_sw fo_ st_ dm_ l_x l_v (d + 1)).1)), (8, .int ((sp_sw fo_ st_ dm_ l_x l_v (d + 1)).2.1)), (9, .int (-((sp_sw fo_ st_ dm_ l_x l_v (d + 1)).1))), (10, .int (if (sp_sw fo_ st_ dm_ l_x l_v (d + 1)).2.2 = true then 1 else 0)), (11, .int (nI (d + 1)))] [6, 7, 8, 9, 10, 11, 12, 4, 5, 1, 0, 3] rfl ?_
                exact ih_51 (d + 1) (-((sp_sw fo_ st_ dm_ l_x l_v (d + 1)).1)) (by omega) (hd)
  exact loop_51 (_ + 1) 0 l_farthest (Nat.lt_succ_self _) (Nat.zero_le _)
