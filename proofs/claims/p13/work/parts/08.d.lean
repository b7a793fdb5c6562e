theorem dX13_two_0 : decode cX13_two 0 = .ok (.iload_n 0, 1) := by decide +kernel
theorem dX13_two_1 : decode cX13_two 1 = .ok (.tableswitch 63 42 47 #[47, 39, 63, 43, 63, 51], 39) := by decide +kernel
theorem dX13_two_40 : decode cX13_two 40 = .ok (.iload_n 1, 1) := by decide +kernel
theorem dX13_two_41 : decode cX13_two 41 = .ok (.iload_n 2, 1) := by decide +kernel
theorem dX13_two_42 : decode cX13_two 42 = .ok (.iadd, 1) := by decide +kernel
theorem dX13_two_43 : decode cX13_two 43 = .ok (.ireturn, 1) := by decide +kernel
theorem dX13_two_44 : decode cX13_two 44 = .ok (.iload_n 1, 1) := by decide +kernel
theorem dX13_two_45 : decode cX13_two 45 = .ok (.iload_n 2, 1) := by decide +kernel
theorem dX13_two_46 : decode cX13_two 46 = .ok (.isub, 1) := by decide +kernel
theorem dX13_two_47 : decode cX13_two 47 = .ok (.ireturn, 1) := by decide +kernel
theorem dX13_two_48 : decode cX13_two 48 = .ok (.iload_n 1, 1) := by decide +kernel
theorem dX13_two_49 : decode cX13_two 49 = .ok (.iload_n 2, 1) := by decide +kernel
theorem dX13_two_50 : decode cX13_two 50 = .ok (.imul, 1) := by decide +kernel
theorem dX13_two_51 : decode cX13_two 51 = .ok (.ireturn, 1) := by decide +kernel
theorem dX13_two_52 : decode cX13_two 52 = .ok (.iload_n 2, 1) := by decide +kernel
theorem dX13_two_53 : decode cX13_two 53 = .ok (.ifCond .ne 7, 3) := by decide +kernel
theorem dX13_two_56 : decode cX13_two 56 = .ok (.iconst 0, 1) := by decide +kernel
theorem dX13_two_57 : decode cX13_two 57 = .ok (.goto 6, 3) := by decide +kernel
theorem dX13_two_60 : decode cX13_two 60 = .ok (.iload_n 1, 1) := by decide +kernel
theorem dX13_two_61 : decode cX13_two 61 = .ok (.iload_n 2, 1) := by decide +kernel
theorem dX13_two_62 : decode cX13_two 62 = .ok (.idiv, 1) := by decide +kernel
theorem dX13_two_63 : decode cX13_two 63 = .ok (.ireturn, 1) := by decide +kernel
theorem dX13_two_64 : decode cX13_two 64 = .ok (.iload_n 2, 1) := by decide +kernel
theorem dX13_two_65 : decode cX13_two 65 = .ok (.ifCond .ne 7, 3) := by decide +kernel
theorem dX13_two_68 : decode cX13_two 68 = .ok (.iconst 0, 1) := by decide +kernel
theorem dX13_two_69 : decode cX13_two 69 = .ok (.goto 6, 3) := by decide +kernel
theorem dX13_two_72 : decode cX13_two 72 = .ok (.iload_n 1, 1) := by decide +kernel
theorem dX13_two_73 : decode cX13_two 73 = .ok (.iload_n 2, 1) := by decide +kernel
theorem dX13_two_74 : decode cX13_two 74 = .ok (.irem, 1) := by decide +kernel
theorem dX13_two_75 : decode cX13_two 75 = .ok (.ireturn, 1) := by decide +kernel
set_option maxHeartbeats 4000000 in
set_option maxRecDepth 100000 in
theorem S_X13_two (l : Launch) (D : va_G)  (p0 : Int32) (s0 : Int) (p1 : Int32) (s1 : Int) (p2 : Int32) (s2 : Int) (e0 : p0.toInt = s0) (e1 : p1.toInt = s1) (e2 : p2.toInt = s2) (sz : Nat) : Ki l yX13_two wsX13_two 1 40 0 0 D [.int p0, .int p1, .int p2] [] [] sz (fun (r : Int32) (_ : Unit) => ((r.toInt = (eJ s0 p1 p2).toInt))) (fun (_ : Unit) => []) (fun _ => []) := by
  unfold Ki
  refine g_ofW (cc := cX13_two) (lv := [(0, .int p0), (1, .int p1), (2, .int p2)]) (by decide) rfl (Nat.le_of_ble_eq_true rfl) rfl ?_
  intro p e s m args below meth c A Q hA hQ F hr hnm
  have hts := F.2.2.2.2.1
  have rg0 : -2147483648 ≤ s0 ∧ s0 ≤ 2147483647 := e0 ▸ ti_rng p0
  have rg1 : -2147483648 ≤ s1 ∧ s1 ≤ 2147483647 := e1 ▸ ti_rng p1
  have rg2 : -2147483648 ≤ s2 ∧ s2 ≤ 2147483647 := e2 ▸ ti_rng p2
  refine g_iload_n F 0 dX13_two_0 rfl rfl ?_
  rcases (show s0 = 42 ∨ s0 = 43 ∨ s0 = 44 ∨ s0 = 45 ∨ s0 = 46 ∨ s0 = 47 ∨ (s0 < 42 ∨ 47 < s0) by omega) with c1 | c1 | c1 | c1 | c1 | c1 | c1
  · have c1' : Int32.toInt p0 = 42 := (e0).trans c1
    refine g_tableIn F 48 dX13_two_1 (by rw [c1']; decide) (by rw [c1']; decide) (by rw [c1']; rfl) (by decide) ?_
    refine g_iload_n F 1 dX13_two_48 rfl rfl ?_
    refine g_iload_n F 2 dX13_two_49 rfl rfl ?_
    refine g_imul F dX13_two_50 ?_
    exact u_iret F hA hQ hr () ((by unfold eJ; (repeat' split) <;> first | rfl | (exfalso; omega))) rfl rfl dX13_two_51
  · have c1' : Int32.toInt p0 = 43 := (e0).trans c1
    refine g_tableIn F 40 dX13_two_1 (by rw [c1']; decide) (by rw [c1']; decide) (by rw [c1']; rfl) (by decide) ?_
    refine g_iload_n F 1 dX13_two_40 rfl rfl ?_
    refine g_iload_n F 2 dX13_two_41 rfl rfl ?_
    refine g_iadd F dX13_two_42 ?_
    exact u_iret F hA hQ hr () ((by unfold eJ; (repeat' split) <;> first | rfl | (exfalso; omega))) rfl rfl dX13_two_43
  · have c1' : Int32.toInt p0 = 44 := (e0).trans c1
    refine g_tableIn F 64 dX13_two_1 (by rw [c1']; decide) (by rw [c1']; decide) (by rw [c1']; rfl) (by decide) ?_
    refine g_iload_n F 2 dX13_two_64 rfl rfl ?_
    refine v_if_ne F 72 dX13_two_65 (by decide) s2 e2 (fun c2 => ?_) (fun c2 => ?_)
    · refine g_iload_n F 1 dX13_two_72 rfl rfl ?_
      refine g_iload_n F 2 dX13_two_73 rfl rfl ?_
      refine g_irem F dX13_two_74 (ti_ne0 e2 (by omega)) ?_
      exact u_iret F hA hQ hr () ((by unfold eJ; (repeat' split) <;> first | rfl | (exfalso; omega))) rfl rfl dX13_two_75
    · refine g_iconst F 0 dX13_two_68 (by decide) ?_
      refine g_goto F 75 dX13_two_69 (by decide) ?_
      exact u_iret F hA hQ hr () ((by unfold eJ; (repeat' split) <;> first | rfl | (exfalso; omega))) rfl rfl dX13_two_75
  · have c1' : Int32.toInt p0 = 45 := (e0).trans c1
    refine g_tableIn F 44 dX13_two_1 (by rw [c1']; decide) (by rw [c1']; decide) (by rw [c1']; rfl) (by decide) ?_
    refine g_iload_n F 1 dX13_two_44 rfl rfl ?_
    refine g_iload_n F 2 dX13_two_45 rfl rfl ?_
    refine g_isub F dX13_two_46 ?_
    exact u_iret F hA hQ hr () ((by unfold eJ; (repeat' split) <;> first | rfl | (exfalso; omega))) rfl rfl dX13_two_47
  · have c1' : Int32.toInt p0 = 46 := (e0).trans c1
    refine g_tableIn F 64 dX13_two_1 (by rw [c1']; decide) (by rw [c1']; decide) (by rw [c1']; rfl) (by decide) ?_
    refine g_iload_n F 2 dX13_two_64 rfl rfl ?_
    refine v_if_ne F 72 dX13_two_65 (by decide) s2 e2 (fun c3 => ?_) (fun c3 => ?_)
    · refine g_iload_n F 1 dX13_two_72 rfl rfl ?_
      refine g_iload_n F 2 dX13_two_73 rfl rfl ?_
      refine g_irem F dX13_two_74 (ti_ne0 e2 (by omega)) ?_
      exact u_iret F hA hQ hr () ((by unfold eJ; (repeat' split) <;> first | rfl | (exfalso; omega))) rfl rfl dX13_two_75
    · refine g_iconst F 0 dX13_two_68 (by decide) ?_
      refine g_goto F 75 dX13_two_69 (by decide) ?_
      exact u_iret F hA hQ hr () ((by unfold eJ; (repeat' split) <;> first | rfl | (exfalso; omega))) rfl rfl dX13_two_75
  · have c1' : Int32.toInt p0 = 47 := (e0).trans c1
    refine g_tableIn F 52 dX13_two_1 (by rw [c1']; decide) (by rw [c1']; decide) (by rw [c1']; rfl) (by decide) ?_
    refine g_iload_n F 2 dX13_two_52 rfl rfl ?_
    refine v_if_ne F 60 dX13_two_53 (by decide) s2 e2 (fun c4 => ?_) (fun c4 => ?_)
    · refine g_iload_n F 1 dX13_two_60 rfl rfl ?_
      refine g_iload_n F 2 dX13_two_61 rfl rfl ?_
      refine g_idiv F dX13_two_62 (ti_ne0 e2 (by omega)) ?_
      exact u_iret F hA hQ hr () ((by unfold eJ; (repeat' split) <;> first | rfl | (exfalso; omega))) rfl rfl dX13_two_63
    · refine g_iconst F 0 dX13_two_56 (by decide) ?_
      refine g_goto F 63 dX13_two_57 (by decide) ?_
      exact u_iret F hA hQ hr () ((by unfold eJ; (repeat' split) <;> first | rfl | (exfalso; omega))) rfl rfl dX13_two_63
  · refine g_tableOut F 64 dX13_two_1 (by rw [e0]; exact c1) (by decide) ?_
    refine g_iload_n F 2 dX13_two_64 rfl rfl ?_
    refine v_if_ne F 72 dX13_two_65 (by decide) s2 e2 (fun c5 => ?_) (fun c5 => ?_)
    · refine g_iload_n F 1 dX13_two_72 rfl rfl ?_
      refine g_iload_n F 2 dX13_two_73 rfl rfl ?_
      refine g_irem F dX13_two_74 (ti_ne0 e2 (by omega)) ?_
      exact u_iret F hA hQ hr () ((by unfold eJ; (repeat' split) <;> first | rfl | (exfalso; omega))) rfl rfl dX13_two_75
    · refine g_iconst F 0 dX13_two_68 (by decide) ?_
      refine g_goto F 75 dX13_two_69 (by decide) ?_
      exact u_iret F hA hQ hr () ((by unfold eJ; (repeat' split) <;> first | rfl | (exfalso; omega))) rfl rfl dX13_two_75

theorem dX13_sumOf_0 : decode cX13_sumOf 0 = .ok (.iconst 0, 1) := by decide +kernel
theorem dX13_sumOf_1 : decode cX13_sumOf 1 = .ok (.istore 4, 2) := by decide +kernel
theorem dX13_sumOf_3 : decode cX13_sumOf 3 = .ok (.bipush 80, 2) := by decide +kernel
theorem dX13_sumOf_5 : decode cX13_sumOf 5 = .ok (.iload_n 1, 1) := by decide +kernel
theorem dX13_sumOf_6 : decode cX13_sumOf 6 = .ok (.imul, 1) := by decide +kernel
theorem dX13_sumOf_7 : decode cX13_sumOf 7 = .ok (.istore 5, 2) := by decide +kernel
theorem dX13_sumOf_9 : decode cX13_sumOf 9 = .ok (.iload 5, 2) := by decide +kernel
theorem dX13_sumOf_11 : decode cX13_sumOf 11 = .ok (.bipush 80, 2) := by decide +kernel
theorem dX13_sumOf_13 : decode cX13_sumOf 13 = .ok (.iload_n 1, 1) := by decide +kernel
theorem dX13_sumOf_14 : decode cX13_sumOf 14 = .ok (.imul, 1) := by decide +kernel
theorem dX13_sumOf_15 : decode cX13_sumOf 15 = .ok (.aload_n 0, 1) := by decide +kernel
theorem dX13_sumOf_16 : decode cX13_sumOf 16 = .ok (.getfield 86, 3) := by decide +kernel
theorem dX13_sumOf_19 : decode cX13_sumOf 19 = .ok (.iload_n 1, 1) := by decide +kernel
theorem dX13_sumOf_20 : decode cX13_sumOf 20 = .ok (.iaload, 1) := by decide +kernel
theorem dX13_sumOf_21 : decode cX13_sumOf 21 = .ok (.iadd, 1) := by decide +kernel
theorem dX13_sumOf_22 : decode cX13_sumOf 22 = .ok (.if_icmp .ge 129, 3) := by decide +kernel
theorem dX13_sumOf_25 : decode cX13_sumOf 25 = .ok (.aload_n 0, 1) := by decide +kernel
theorem dX13_sumOf_26 : decode cX13_sumOf 26 = .ok (.getfield 103, 3) := by decide +kernel
theorem dX13_sumOf_29 : decode cX13_sumOf 29 = .ok (.iload 5, 2) := by decide +kernel
theorem dX13_sumOf_31 : decode cX13_sumOf 31 = .ok (.iaload, 1) := by decide +kernel
theorem dX13_sumOf_32 : decode cX13_sumOf 32 = .ok (.istore 6, 2) := by decide +kernel
theorem dX13_sumOf_34 : decode cX13_sumOf 34 = .ok (.aload_n 0, 1) := by decide +kernel
theorem dX13_sumOf_35 : decode cX13_sumOf 35 = .ok (.getfield 100, 3) := by decide +kernel
theorem dX13_sumOf_38 : decode cX13_sumOf 38 = .ok (.iload 5, 2) := by decide +kernel
theorem dX13_sumOf_40 : decode cX13_sumOf 40 = .ok (.iaload, 1) := by decide +kernel
theorem dX13_sumOf_41 : decode cX13_sumOf 41 = .ok (.iconst 2, 1) := by decide +kernel
theorem dX13_sumOf_42 : decode cX13_sumOf 42 = .ok (.if_icmp .eq 41, 3) := by decide +kernel
theorem dX13_sumOf_45 : decode cX13_sumOf 45 = .ok (.aload_n 0, 1) := by decide +kernel
theorem dX13_sumOf_46 : decode cX13_sumOf 46 = .ok (.getfield 137, 3) := by decide +kernel
theorem dX13_sumOf_49 : decode cX13_sumOf 49 = .ok (.iload 4, 2) := by decide +kernel
theorem dX13_sumOf_51 : decode cX13_sumOf 51 = .ok (.aload_n 0, 1) := by decide +kernel
theorem dX13_sumOf_52 : decode cX13_sumOf 52 = .ok (.getfield 100, 3) := by decide +kernel
theorem dX13_sumOf_55 : decode cX13_sumOf 55 = .ok (.iload 5, 2) := by decide +kernel
theorem dX13_sumOf_57 : decode cX13_sumOf 57 = .ok (.iaload, 1) := by decide +kernel
theorem dX13_sumOf_58 : decode cX13_sumOf 58 = .ok (.ifCond .ne 8, 3) := by decide +kernel
theorem dX13_sumOf_61 : decode cX13_sumOf 61 = .ok (.iload 6, 2) := by decide +kernel
theorem dX13_sumOf_63 : decode cX13_sumOf 63 = .ok (.goto 13, 3) := by decide +kernel
theorem dX13_sumOf_66 : decode cX13_sumOf 66 = .ok (.iload 6, 2) := by decide +kernel
theorem dX13_sumOf_68 : decode cX13_sumOf 68 = .ok (.ifCond .ne 7, 3) := by decide +kernel
theorem dX13_sumOf_71 : decode cX13_sumOf 71 = .ok (.iload_n 2, 1) := by decide +kernel
theorem dX13_sumOf_72 : decode cX13_sumOf 72 = .ok (.goto 4, 3) := by decide +kernel
theorem dX13_sumOf_75 : decode cX13_sumOf 75 = .ok (.iload_n 3, 1) := by decide +kernel
theorem dX13_sumOf_76 : decode cX13_sumOf 76 = .ok (.iastore, 1) := by decide +kernel
theorem dX13_sumOf_77 : decode cX13_sumOf 77 = .ok (.iinc 4 1, 3) := by decide +kernel
theorem dX13_sumOf_80 : decode cX13_sumOf 80 = .ok (.goto 65, 3) := by decide +kernel
theorem dX13_sumOf_83 : decode cX13_sumOf 83 = .ok (.iload 6, 2) := by decide +kernel
theorem dX13_sumOf_85 : decode cX13_sumOf 85 = .ok (.bipush 33, 2) := by decide +kernel
theorem dX13_sumOf_87 : decode cX13_sumOf 87 = .ok (.if_icmp .ne 25, 3) := by decide +kernel
theorem dX13_sumOf_90 : decode cX13_sumOf 90 = .ok (.aload_n 0, 1) := by decide +kernel
theorem dX13_sumOf_91 : decode cX13_sumOf 91 = .ok (.getfield 137, 3) := by decide +kernel
theorem dX13_sumOf_94 : decode cX13_sumOf 94 = .ok (.iload 4, 2) := by decide +kernel
theorem dX13_sumOf_96 : decode cX13_sumOf 96 = .ok (.iconst 1, 1) := by decide +kernel
theorem dX13_sumOf_97 : decode cX13_sumOf 97 = .ok (.isub, 1) := by decide +kernel
theorem dX13_sumOf_98 : decode cX13_sumOf 98 = .ok (.aload_n 0, 1) := by decide +kernel
theorem dX13_sumOf_99 : decode cX13_sumOf 99 = .ok (.getfield 137, 3) := by decide +kernel
theorem dX13_sumOf_102 : decode cX13_sumOf 102 = .ok (.iload 4, 2) := by decide +kernel
theorem dX13_sumOf_104 : decode cX13_sumOf 104 = .ok (.iconst 1, 1) := by decide +kernel
theorem dX13_sumOf_105 : decode cX13_sumOf 105 = .ok (.isub, 1) := by decide +kernel
theorem dX13_sumOf_106 : decode cX13_sumOf 106 = .ok (.iaload, 1) := by decide +kernel
theorem dX13_sumOf_107 : decode cX13_sumOf 107 = .ok (.ineg, 1) := by decide +kernel
theorem dX13_sumOf_108 : decode cX13_sumOf 108 = .ok (.iastore, 1) := by decide +kernel
theorem dX13_sumOf_109 : decode cX13_sumOf 109 = .ok (.goto 36, 3) := by decide +kernel
theorem dX13_sumOf_112 : decode cX13_sumOf 112 = .ok (.iinc 4 (-1), 3) := by decide +kernel
theorem dX13_sumOf_115 : decode cX13_sumOf 115 = .ok (.aload_n 0, 1) := by decide +kernel
theorem dX13_sumOf_116 : decode cX13_sumOf 116 = .ok (.getfield 137, 3) := by decide +kernel
theorem dX13_sumOf_119 : decode cX13_sumOf 119 = .ok (.iload 4, 2) := by decide +kernel
theorem dX13_sumOf_121 : decode cX13_sumOf 121 = .ok (.iconst 1, 1) := by decide +kernel
theorem dX13_sumOf_122 : decode cX13_sumOf 122 = .ok (.isub, 1) := by decide +kernel
theorem dX13_sumOf_123 : decode cX13_sumOf 123 = .ok (.iload 6, 2) := by decide +kernel
theorem dX13_sumOf_125 : decode cX13_sumOf 125 = .ok (.aload_n 0, 1) := by decide +kernel
theorem dX13_sumOf_126 : decode cX13_sumOf 126 = .ok (.getfield 137, 3) := by decide +kernel
theorem dX13_sumOf_129 : decode cX13_sumOf 129 = .ok (.iload 4, 2) := by decide +kernel
theorem dX13_sumOf_131 : decode cX13_sumOf 131 = .ok (.iconst 1, 1) := by decide +kernel
theorem dX13_sumOf_132 : decode cX13_sumOf 132 = .ok (.isub, 1) := by decide +kernel
theorem dX13_sumOf_133 : decode cX13_sumOf 133 = .ok (.iaload, 1) := by decide +kernel
theorem dX13_sumOf_134 : decode cX13_sumOf 134 = .ok (.aload_n 0, 1) := by decide +kernel
theorem dX13_sumOf_135 : decode cX13_sumOf 135 = .ok (.getfield 137, 3) := by decide +kernel
theorem dX13_sumOf_138 : decode cX13_sumOf 138 = .ok (.iload 4, 2) := by decide +kernel
theorem dX13_sumOf_140 : decode cX13_sumOf 140 = .ok (.iaload, 1) := by decide +kernel
theorem dX13_sumOf_141 : decode cX13_sumOf 141 = .ok (.invokestatic 140, 3) := by decide +kernel
theorem dX13_sumOf_144 : decode cX13_sumOf 144 = .ok (.iastore, 1) := by decide +kernel
theorem dX13_sumOf_145 : decode cX13_sumOf 145 = .ok (.iinc 5 1, 3) := by decide +kernel
theorem dX13_sumOf_148 : decode cX13_sumOf 148 = .ok (.goto (-139), 3) := by decide +kernel
theorem dX13_sumOf_151 : decode cX13_sumOf 151 = .ok (.aload_n 0, 1) := by decide +kernel
theorem dX13_sumOf_152 : decode cX13_sumOf 152 = .ok (.getfield 137, 3) := by decide +kernel
theorem dX13_sumOf_155 : decode cX13_sumOf 155 = .ok (.iconst 0, 1) := by decide +kernel
theorem dX13_sumOf_156 : decode cX13_sumOf 156 = .ok (.iaload, 1) := by decide +kernel
theorem dX13_sumOf_157 : decode cX13_sumOf 157 = .ok (.ireturn, 1) := by decide +kernel
set_option maxRecDepth 20000 in
theorem ggX13_sumOf_X13_two : GoodIn wsX13_sumOf wsX13_two := goodIn_r _ [8] rfl (by decide +kernel)
set_option maxRecDepth 20000 in
theorem gX13_sumOf_X13_two : GoodIn wsX13_sumOf (va_wsS RX13 140 yX13_two wsX13_two) := goodIn_app (goodIn_of _ (by decide +kernel)) ggX13_sumOf_X13_two
set_option maxHeartbeats 4000000 in
set_option maxRecDepth 100000 in
theorem S_X13_sumOf (l : Launch) (D : va_G) (K : Nat → ClassId) (a : Nat → Nat) (G : gS) (p0 : Int32) (s0 : Int) (p1 : Int32) (s1 : Int) (p2 : Int32) (s2 : Int) (e0 : p0.toInt = s0) (h0 : 0 ≤ s0 ∧ s0 ≤ 2) (e1 : p1.toInt = s1) (e2 : p2.toInt = s2) (wf : yW3 G) (hI : yI G) (sz : Nat) : Ki l yX13_sumOf wsX13_sumOf 2 62 0 0 D [.ref (a 0), .int p0, .int p1, .int p2] (yW K a G) (tK K) sz (fun (r : Int32) (G' : gS) => (yI G') ∧ (gu_un ycd [1300] G G') ∧ ((gcOK (mL s0 G) → r.toInt = (eV p1 p2 (mL s0 G)).toInt))) (fun (G' : gS) => (yW K a G')) (fun _ => (tK K)) := by
  unfold Ki
  refine g_ofW (cc := cX13_sumOf) (lv := [(0, .ref (a 0)), (1, .int p0), (2, .int p1), (3, .int p2)]) (by decide) rfl (Nat.le_of_ble_eq_true rfl) rfl ?_
  intro p e s m args below meth c A Q hA hQ F hr hnm
  have hts := F.2.2.2.2.1
  have w_0 : (Cond.fieldLink RX13 86 "QuietCutModel" "marks" "[I").before args s = true := hts _ (List.mem_of_getElem? (i := 1) rfl)
  have i_X13 : ∀ w ∈ u_ws RX13 TX13 73, w ∈ wsX13_sumOf := fun _ h => List.mem_cons_of_mem _ (List.mem_append_right _ h)
  have w_1 : (Cond.fieldLink RX13 137 "QuietCutModel" "pile" "[I").before args s = true := hts _ (List.mem_of_getElem? (i := 4) rfl)
  have w_2 : (Cond.fieldLink RX13 103 "QuietCutModel" "markValue" "[I").before args s = true := hts _ (List.mem_of_getElem? (i := 2) rfl)
  have w_3 : (Cond.fieldLink RX13 100 "QuietCutModel" "markKind" "[I").before args s = true := hts _ (List.mem_of_getElem? (i := 3) rfl)
  have rg1 : -2147483648 ≤ s1 ∧ s1 ≤ 2147483647 := e1 ▸ ti_rng p1
  have rg2 : -2147483648 ≤ s2 ∧ s2 ≤ 2147483647 := e2 ▸ ti_rng p2
  have mb : 0 ≤ (G 12 (s0).toNat).toInt ∧ (G 12 (s0).toNat).toInt ≤ 80 := hI 12 _
  have J_9 : ∀ (fuel : Nat) (x9_4 : Int32) (x9_5 : Int32) (Gj9 : gS), (2147483647 - x9_5.toInt).toNat < fuel → (0 ≤ x9_4.toInt ∧ x9_4.toInt ≤ 80) → (0 ≤ x9_5.toInt ∧ x9_5.toInt ≤ 240) → (yI Gj9) → (gu_un ycd [1300] G Gj9) → (rpk (G 10) (G 11) (80 * s0) x9_5.toInt = some (x9_4.toInt).toNat) → ((80 * s0 ≤ x9_5.toInt ∧ 0 ≤ x9_4.toInt ∧ x9_4.toInt ≤ x9_5.toInt - 80 * s0 ∧ x9_5.toInt ≤ 80 * s0 + (G 12 (s0).toNat).toInt)) → (gcOK (mL s0 G) → skr (Gj9 13) (x9_4.toInt).toNat = eS p1 p2 (mPx s0 x9_5.toInt G)) → gG p l e (gR 2 0 0 62) s m args below meth c D A 7 Q 0 0 (yW K a Gj9) (tK K) [(0, .ref (a 0)), (1, .int p0), (2, .int p1), (3, .int p2), (4, .int x9_4), (5, .int x9_5)] 9 [] := by
    intro fuel
    induction fuel with
    | zero => intro x9_4 x9_5 Gj9 hm; exact absurd hm (Nat.not_lt_zero _)
    | succ fuel_9 ih_9 =>
      intro x9_4 x9_5 Gj9 hm_9 h9_4 h9_5 jI9 jU9 rpx rpy ev
      refine g_iload F 5 dX13_sumOf_9 rfl ?_
      refine g_bipush F 80 dX13_sumOf_11 (by decide) ?_
      refine g_iload_n F 1 dX13_sumOf_13 rfl rfl ?_
      refine u_imul F dX13_sumOf_14 80 s0 rfl e0 (by omega) (by omega) (fun y1 ey1 => ?_)
      refine g_aload_n F 0 dX13_sumOf_15 rfl rfl ?_
      refine yg_0_19 F i_X13 w_0 dX13_sumOf_16 ?_
      refine g_iload_n F 1 dX13_sumOf_19 rfl rfl ?_
      refine u1_iald F 12 0 yc_12 rfl s0 e0 (by omega) (by omega) dX13_sumOf_20 ((G 12) (s0).toNat) (congrFun ((show Gj9 12 = G 12 from funext fun k_ => jU9 12 k_ (show (1200 : Nat) ∉ ([1300] : List Nat) by decide))) _) ?_
      have b2 : (0 : Int) ≤ ((G 12) (s0).toNat).toInt ∧ ((G 12) (s0).toNat).toInt ≤ 80 := hI 12 _
      refine u_iadd F dX13_sumOf_21 y1.toInt ((G 12) (s0).toNat).toInt rfl rfl (by omega) (by omega) (fun y3 ey3 => ?_)
      refine v_icmp_ge F 151 dX13_sumOf_22 (by decide) x9_5.toInt y3.toInt rfl rfl (fun c4 => ?_) (fun c4 => ?_)
      · refine g_aload_n F 0 dX13_sumOf_151 rfl rfl ?_
        refine yg_0_22 F i_X13 w_1 dX13_sumOf_152 ?_
        refine g_iconst F 0 dX13_sumOf_155 (by decide) ?_
        refine u1_iald F 13 0 yc_13 rfl 0 rfl (by decide) (by decide) dX13_sumOf_156 (Gj9 13 0) (rfl) ?_
        exact u_iret F hA hQ hr Gj9 (⟨jI9, (gu_un.tr gu_un.rf (gu_un.su jU9 rfl)), (fun hg => by rw [mFin hg (by omega) (k := x9_5.toInt) (by omega) (by omega) (ev hg)])⟩) rfl rfl dX13_sumOf_157
      · refine g_aload_n F 0 dX13_sumOf_25 rfl rfl ?_
        refine yg_0_18 F i_X13 w_2 dX13_sumOf_26 ?_
        refine g_iload F 5 dX13_sumOf_29 rfl ?_
        refine u1_iald F 11 0 yc_11 rfl x9_5.toInt rfl (by omega) (by omega) dX13_sumOf_31 ((G 11) (x9_5.toInt).toNat) (congrFun ((show Gj9 11 = G 11 from funext fun k_ => jU9 11 k_ (show (1100 : Nat) ∉ ([1300] : List Nat) by decide))) _) ?_
        have b5 : (0 : Int) ≤ ((G 11) (x9_5.toInt).toNat).toInt ∧ ((G 11) (x9_5.toInt).toNat).toInt ≤ 9999 := hI 11 _
        refine g_istore F [(6, .int ((G 11) (x9_5.toInt).toNat)), (0, .ref (a 0)), (1, .int p0), (2, .int p1), (3, .int p2), (4, .int x9_4), (5, .int x9_5)] dX13_sumOf_32 (by decide) rfl ?_
        refine g_aload_n F 1 dX13_sumOf_34 rfl rfl ?_
        refine yg_0_17 F i_X13 w_3 dX13_sumOf_35 ?_
        refine g_iload F 6 dX13_sumOf_38 rfl ?_
        refine u1_iald F 10 0 yc_10 rfl x9_5.toInt rfl (by omega) (by omega) dX13_sumOf_40 ((G 10) (x9_5.toInt).toNat) (congrFun ((show Gj9 10 = G 10 from funext fun k_ => jU9 10 k_ (show (1000 : Nat) ∉ ([1300] : List Nat) by decide))) _) ?_
        have b6 : (0 : Int) ≤ ((G 10) (x9_5.toInt).toNat).toInt ∧ ((G 10) (x9_5.toInt).toNat).toInt ≤ 2 := hI 10 _
        refine g_iconst F 2 dX13_sumOf_41 (by decide) ?_
        refine v_icmp_eq F 83 dX13_sumOf_42 (by decide) ((G 10) (x9_5.toInt).toNat).toInt 2 rfl rfl (fun c7 => ?_) (fun c7 => ?_)
        · refine g_iload F 0 dX13_sumOf_83 rfl ?_
          refine g_bipush F 33 dX13_sumOf_85 (by decide) ?_
          refine v_icmp_ne F 112 dX13_sumOf_87 (by decide) ((G 11) (x9_5.toInt).toNat).toInt 33 rfl rfl (fun c8 => ?_) (fun c8 => ?_)
          · have h7 : 2 ≤ (x9_4.toInt).toNat ∧ rpk (G 10) (G 11) (80 * s0) (x9_5.toInt + 1) = some ((x9_4.toInt).toNat - 1) := by
              rcases rpk_step (by omega) (by omega) rpx (yW3.at (k := x9_5.toInt) wf (by omega) (by omega) (by omega) (by omega)) with ⟨h1, h2⟩ | ⟨h1, h2, h3, h4⟩ | ⟨h1, h2, h3, h4⟩ <;> first | exact ⟨trivial, h2⟩ | exact ⟨h3, h4⟩ | (exfalso; omega)
            have h6 := h7.1
            refine u_iinc F (fun v_ => [(4, .int v_), (6, .int ((G 11) (x9_5.toInt).toNat)), (0, .ref (a 0)), (1, .int p0), (2, .int p1), (3, .int p2), (5, .int x9_5)]) dX13_sumOf_112 (j := 5) rfl x9_4.toInt (-1) rfl rfl (by omega) (by omega) (by decide) (fun _ => rfl) (fun y9 ey9 => ?_)
            refine g_aload_n F 2 dX13_sumOf_115 rfl rfl ?_
            refine yg_0_22 F i_X13 w_1 dX13_sumOf_116 ?_
            refine g_iload F 0 dX13_sumOf_119 rfl ?_
            refine g_iconst F 1 dX13_sumOf_121 (by decide) ?_
            refine u_isub F dX13_sumOf_122 y9.toInt 1 rfl rfl (by omega) (by omega) (fun y10 ey10 => ?_)
            refine g_iload F 1 dX13_sumOf_123 rfl ?_
            refine g_aload_n F 2 dX13_sumOf_125 rfl rfl ?_
            refine yg_0_22 F i_X13 w_1 dX13_sumOf_126 ?_
            refine g_iload F 0 dX13_sumOf_129 rfl ?_
            refine g_iconst F 1 dX13_sumOf_131 (by decide) ?_
            refine u_isub F dX13_sumOf_132 y9.toInt 1 rfl rfl (by omega) (by omega) (fun y11 ey11 => ?_)
            refine u1_iald F 13 0 yc_13 rfl y11.toInt rfl (by omega) (by omega) dX13_sumOf_133 ((Gj9 13) ((y9.toInt - 1)).toNat) (by rw [show y11.toInt = (y9.toInt - 1) by omega] <;> rfl) ?_
            refine g_aload_n F 2 dX13_sumOf_134 rfl rfl ?_
            refine yg_0_22 F i_X13 w_1 dX13_sumOf_135 ?_
            refine g_iload F 0 dX13_sumOf_138 rfl ?_
            refine u1_iald F 13 0 yc_13 rfl y9.toInt rfl (by omega) (by omega) dX13_sumOf_140 ((Gj9 13) (y9.toInt).toNat) (rfl) ?_
            refine u_call0 (k := 0) (n := 0) (As := [.int ((G 11) (x9_5.toInt).toNat), .int ((Gj9 13) ((y9.toInt - 1)).toNat), .int ((Gj9 13) (y9.toInt).toNat)]) (st := [.int y10, .ref (a 13)]) F (fun sz => S_X13_two l D ((G 11) (x9_5.toInt).toNat) ((G 11) (x9_5.toInt).toNat).toInt ((Gj9 13) ((y9.toInt - 1)).toNat) ((Gj9 13) ((y9.toInt - 1)).toNat).toInt ((Gj9 13) (y9.toInt).toNat) ((Gj9 13) (y9.toInt).toNat).toInt rfl rfl rfl sz) (va_cwS 3 hts gX13_sumOf_X13_two rfl rfl rfl (by decide +kernel) ⟨Nat.le_of_ble_eq_true rfl, Nat.le_of_ble_eq_true rfl⟩) rfl (Nat.le_of_ble_eq_true rfl) ⟨Nat.zero_le _, Nat.zero_le _⟩ dX13_sumOf_141 (fun r12 _ hw13 => ?_)
            have q15 : (r12.toInt = (eJ ((G 11) (x9_5.toInt).toNat).toInt ((Gj9 13) ((y9.toInt - 1)).toNat) ((Gj9 13) (y9.toInt).toNat)).toInt) := hw13
            clear hw13
            refine u_iast F 13 0 yc_13 rfl y10.toInt rfl (by omega) (by omega) (yW K a (gu_up Gj9 13 (y10.toInt).toNat r12)) (ys_13 _) dX13_sumOf_144 ?_
            refine u_iinc F (fun v_ => [(5, .int v_), (4, .int y9), (6, .int ((G 11) (x9_5.toInt).toNat)), (0, .ref (a 0)), (1, .int p0), (2, .int p1), (3, .int p2)]) dX13_sumOf_145 (j := 6) rfl x9_5.toInt 1 rfl rfl (by omega) (by omega) (by decide) (fun _ => rfl) (fun y16 ey16 => ?_)
            refine g_goto F 9 dX13_sumOf_148 (by decide) ?_
            refine g_locals [(0, .ref (a 0)), (1, .int p0), (2, .int p1), (3, .int p2), (4, .int y9), (5, .int y16)] [3, 4, 5, 6, 1, 0] rfl ?_
            exact ih_9 y9 y16 (gu_up Gj9 13 (y10.toInt).toNat r12) (by omega) (by have h9 := ti_rng y9; omega) (by have h9 := ti_rng y16; omega) (gu_I.up (j := 13) (k := (y10.toInt).toNat) (v := r12) jI9 (ti_rng _).1 (ti_rng _).2) (gu_un.up (j := 13) (k := (y10.toInt).toNat) (v := r12) (gu_un.tr gu_un.rf (gu_un.su jU9 rfl)) (show (1300 : Nat) ∈ ([1300] : List Nat) by decide)) (by rw [show y16.toInt = x9_5.toInt + 1 by omega, h7.2]; try (congr 1; omega)) (by (first | omega | (simp only [Int32.reduceToInt, true_and, and_true, ne_eq, not_true_eq_false, false_and, or_false, false_or, true_or, or_true, false_implies] <;> omega))) (fun hg => mJoin hg (by omega) (by omega) (by omega) (ev hg) (by omega) (show (gu_up Gj9 13 (y10.toInt).toNat r12) 13 = (upd (Gj9 13) (y10.toInt).toNat r12) from rfl) q15 (by omega) (by omega) (by omega) (by omega) (by omega) (by omega) (by omega) rfl)
          · have h7 : 1 ≤ (x9_4.toInt).toNat ∧ rpk (G 10) (G 11) (80 * s0) (x9_5.toInt + 1) = some ((x9_4.toInt).toNat) := by
              rcases rpk_step (by omega) (by omega) rpx (yW3.at (k := x9_5.toInt) wf (by omega) (by omega) (by omega) (by omega)) with ⟨h1, h2⟩ | ⟨h1, h2, h3, h4⟩ | ⟨h1, h2, h3, h4⟩ <;> first | exact ⟨trivial, h2⟩ | exact ⟨h3, h4⟩ | (exfalso; omega)
            have h6 := h7.1
            refine g_aload_n F 1 dX13_sumOf_90 rfl rfl ?_
            refine yg_0_22 F i_X13 w_1 dX13_sumOf_91 ?_
            refine g_iload F 5 dX13_sumOf_94 rfl ?_
            refine g_iconst F 1 dX13_sumOf_96 (by decide) ?_
            refine u_isub F dX13_sumOf_97 x9_4.toInt 1 rfl rfl (by omega) (by omega) (fun y17 ey17 => ?_)
            refine g_aload_n F 1 dX13_sumOf_98 rfl rfl ?_
            refine yg_0_22 F i_X13 w_1 dX13_sumOf_99 ?_
            refine g_iload F 5 dX13_sumOf_102 rfl ?_
            refine g_iconst F 1 dX13_sumOf_104 (by decide) ?_
            refine u_isub F dX13_sumOf_105 x9_4.toInt 1 rfl rfl (by omega) (by omega) (fun y18 ey18 => ?_)
            refine u1_iald F 13 0 yc_13 rfl y18.toInt rfl (by omega) (by omega) dX13_sumOf_106 ((Gj9 13) ((x9_4.toInt - 1)).toNat) (by rw [show y18.toInt = (x9_4.toInt - 1) by omega] <;> rfl) ?_
            refine g_ineg F dX13_sumOf_107 ?_
            have ng20 : -2147483648 < ((Gj9 13) ((x9_4.toInt - 1)).toNat).toInt → ((-((Gj9 13) ((x9_4.toInt - 1)).toNat)) : Int32).toInt = -((Gj9 13) ((x9_4.toInt - 1)).toNat).toInt := fun h9 => ti_neg rfl h9
            refine u_iast F 13 0 yc_13 rfl y17.toInt rfl (by omega) (by omega) (yW K a (gu_up Gj9 13 (y17.toInt).toNat (-((Gj9 13) ((x9_4.toInt - 1)).toNat)))) (ys_13 _) dX13_sumOf_108 ?_
            refine g_goto F 145 dX13_sumOf_109 (by decide) ?_
            refine u_iinc F (fun v_ => [(5, .int v_), (6, .int ((G 11) (x9_5.toInt).toNat)), (0, .ref (a 0)), (1, .int p0), (2, .int p1), (3, .int p2), (4, .int x9_4)]) dX13_sumOf_145 (j := 6) rfl x9_5.toInt 1 rfl rfl (by omega) (by omega) (by decide) (fun _ => rfl) (fun y21 ey21 => ?_)
            refine g_goto F 9 dX13_sumOf_148 (by decide) ?_
            refine g_locals [(0, .ref (a 0)), (1, .int p0), (2, .int p1), (3, .int p2), (4, .int x9_4), (5, .int y21)] [2, 3, 4, 5, 6, 0] rfl ?_
            exact ih_9 x9_4 y21 (gu_up Gj9 13 (y17.toInt).toNat (-((Gj9 13) ((x9_4.toInt - 1)).toNat))) (by omega) (by have h9 := ti_rng x9_4; omega) (by have h9 := ti_rng y21; omega) (gu_I.up (j := 13) (k := (y17.toInt).toNat) (v := (-((Gj9 13) ((x9_4.toInt - 1)).toNat))) jI9 (ti_rng _).1 (ti_rng _).2) (gu_un.up (j := 13) (k := (y17.toInt).toNat) (v := (-((Gj9 13) ((x9_4.toInt - 1)).toNat))) (gu_un.tr gu_un.rf (gu_un.su jU9 rfl)) (show (1300 : Nat) ∈ ([1300] : List Nat) by decide)) (by rw [show y21.toInt = x9_5.toInt + 1 by omega, h7.2]; try (congr 1; omega)) (by (first | omega | (simp only [Int32.reduceToInt, true_and, and_true, ne_eq, not_true_eq_false, false_and, or_false, false_or, true_or, or_true, false_implies] <;> omega))) (fun hg => mNeg (by omega) (by omega) (ev hg) (by omega) (show (gu_up Gj9 13 (y17.toInt).toNat (-((Gj9 13) ((x9_4.toInt - 1)).toNat))) 13 = (upd (Gj9 13) (y17.toInt).toNat (-((Gj9 13) ((x9_4.toInt - 1)).toNat))) from rfl) (by omega) (by omega) (by omega) (by omega) (by omega))
        · refine g_aload_n F 1 dX13_sumOf_45 rfl rfl ?_
          refine yg_0_22 F i_X13 w_1 dX13_sumOf_46 ?_
          refine g_iload F 5 dX13_sumOf_49 rfl ?_
          refine g_aload_n F 1 dX13_sumOf_51 rfl rfl ?_
          refine yg_0_17 F i_X13 w_3 dX13_sumOf_52 ?_
          refine g_iload F 6 dX13_sumOf_55 rfl ?_
          refine u1_iald F 10 0 yc_10 rfl x9_5.toInt rfl (by omega) (by omega) dX13_sumOf_57 ((G 10) (x9_5.toInt).toNat) (congrFun ((show Gj9 10 = G 10 from funext fun k_ => jU9 10 k_ (show (1000 : Nat) ∉ ([1300] : List Nat) by decide))) _) ?_
          have b22 : (0 : Int) ≤ ((G 10) (x9_5.toInt).toNat).toInt ∧ ((G 10) (x9_5.toInt).toNat).toInt ≤ 2 := hI 10 _
          refine v_if_ne F 66 dX13_sumOf_58 (by decide) ((G 10) (x9_5.toInt).toNat).toInt rfl (fun c23 => ?_) (fun c23 => ?_)
          · refine g_iload F 0 dX13_sumOf_66 rfl ?_
            refine v_if_ne F 75 dX13_sumOf_68 (by decide) ((G 11) (x9_5.toInt).toNat).toInt rfl (fun c24 => ?_) (fun c24 => ?_)
            · refine g_iload_n F 4 dX13_sumOf_75 rfl rfl ?_
              have h7 : True ∧ rpk (G 10) (G 11) (80 * s0) (x9_5.toInt + 1) = some ((x9_4.toInt).toNat + 1) := by
                rcases rpk_step (by omega) (by omega) rpx (yW3.at (k := x9_5.toInt) wf (by omega) (by omega) (by omega) (by omega)) with ⟨h1, h2⟩ | ⟨h1, h2, h3, h4⟩ | ⟨h1, h2, h3, h4⟩ <;> first | exact ⟨trivial, h2⟩ | exact ⟨h3, h4⟩ | (exfalso; omega)
              have h6 := h7.1
              refine u_iast F 13 0 yc_13 rfl x9_4.toInt rfl (by omega) (by omega) (yW K a (gu_up Gj9 13 (x9_4.toInt).toNat p2)) (ys_13 _) dX13_sumOf_76 ?_
              refine u_iinc F (fun v_ => [(4, .int v_), (6, .int ((G 11) (x9_5.toInt).toNat)), (0, .ref (a 0)), (1, .int p0), (2, .int p1), (3, .int p2), (5, .int x9_5)]) dX13_sumOf_77 (j := 5) rfl x9_4.toInt 1 rfl rfl (by omega) (by omega) (by decide) (fun _ => rfl) (fun y25 ey25 => ?_)
              refine g_goto F 145 dX13_sumOf_80 (by decide) ?_
              refine u_iinc F (fun v_ => [(5, .int v_), (4, .int y25), (6, .int ((G 11) (x9_5.toInt).toNat)), (0, .ref (a 0)), (1, .int p0), (2, .int p1), (3, .int p2)]) dX13_sumOf_145 (j := 6) rfl x9_5.toInt 1 rfl rfl (by omega) (by omega) (by decide) (fun _ => rfl) (fun y26 ey26 => ?_)
              refine g_goto F 9 dX13_sumOf_148 (by decide) ?_
              refine g_locals [(0, .ref (a 0)), (1, .int p0), (2, .int p1), (3, .int p2), (4, .int y25), (5, .int y26)] [3, 4, 5, 6, 1, 0] rfl ?_
              exact ih_9 y25 y26 (gu_up Gj9 13 (x9_4.toInt).toNat p2) (by omega) (by have h9 := ti_rng y25; omega) (by have h9 := ti_rng y26; omega) (gu_I.up (j := 13) (k := (x9_4.toInt).toNat) (v := p2) jI9 (ti_rng _).1 (ti_rng _).2) (gu_un.up (j := 13) (k := (x9_4.toInt).toNat) (v := p2) (gu_un.tr gu_un.rf (gu_un.su jU9 rfl)) (show (1300 : Nat) ∈ ([1300] : List Nat) by decide)) (by rw [show y26.toInt = x9_5.toInt + 1 by omega, h7.2]; try (congr 1; omega)) (by (first | omega | (simp only [Int32.reduceToInt, true_and, and_true, ne_eq, not_true_eq_false, false_and, or_false, false_or, true_or, or_true, false_implies] <;> omega))) (fun hg => mPush hg (by omega) (by omega) (by omega) (ev hg) (by omega) (show (gu_up Gj9 13 (x9_4.toInt).toNat p2) 13 = (upd (Gj9 13) (x9_4.toInt).toNat p2) from rfl) (by omega) (by omega) (show (0 : Int) ≤ (G 11 (x9_5.toInt).toNat).toInt from (hI 11 _).1) (by first | exact Or.inl ⟨by omega, rfl⟩ | exact Or.inr (Or.inl ⟨by omega, by omega, rfl⟩) | exact Or.inr (Or.inr ⟨by omega, by omega, rfl⟩)))
            · refine g_iload_n F 3 dX13_sumOf_71 rfl rfl ?_
              refine g_goto F 76 dX13_sumOf_72 (by decide) ?_
              have h7 : True ∧ rpk (G 10) (G 11) (80 * s0) (x9_5.toInt + 1) = some ((x9_4.toInt).toNat + 1) := by
                rcases rpk_step (by omega) (by omega) rpx (yW3.at (k := x9_5.toInt) wf (by omega) (by omega) (by omega) (by omega)) with ⟨h1, h2⟩ | ⟨h1, h2, h3, h4⟩ | ⟨h1, h2, h3, h4⟩ <;> first | exact ⟨trivial, h2⟩ | exact ⟨h3, h4⟩ | (exfalso; omega)
              have h6 := h7.1
              refine u_iast F 13 0 yc_13 rfl x9_4.toInt rfl (by omega) (by omega) (yW K a (gu_up Gj9 13 (x9_4.toInt).toNat p1)) (ys_13 _) dX13_sumOf_76 ?_
              refine u_iinc F (fun v_ => [(4, .int v_), (6, .int ((G 11) (x9_5.toInt).toNat)), (0, .ref (a 0)), (1, .int p0), (2, .int p1), (3, .int p2), (5, .int x9_5)]) dX13_sumOf_77 (j := 5) rfl x9_4.toInt 1 rfl rfl (by omega) (by omega) (by decide) (fun _ => rfl) (fun y27 ey27 => ?_)
              refine g_goto F 145 dX13_sumOf_80 (by decide) ?_
              refine u_iinc F (fun v_ => [(5, .int v_), (4, .int y27), (6, .int ((G 11) (x9_5.toInt).toNat)), (0, .ref (a 0)), (1, .int p0), (2, .int p1), (3, .int p2)]) dX13_sumOf_145 (j := 6) rfl x9_5.toInt 1 rfl rfl (by omega) (by omega) (by decide) (fun _ => rfl) (fun y28 ey28 => ?_)
              refine g_goto F 9 dX13_sumOf_148 (by decide) ?_
              refine g_locals [(0, .ref (a 0)), (1, .int p0), (2, .int p1), (3, .int p2), (4, .int y27), (5, .int y28)] [3, 4, 5, 6, 1, 0] rfl ?_
              exact ih_9 y27 y28 (gu_up Gj9 13 (x9_4.toInt).toNat p1) (by omega) (by have h9 := ti_rng y27; omega) (by have h9 := ti_rng y28; omega) (gu_I.up (j := 13) (k := (x9_4.toInt).toNat) (v := p1) jI9 (ti_rng _).1 (ti_rng _).2) (gu_un.up (j := 13) (k := (x9_4.toInt).toNat) (v := p1) (gu_un.tr gu_un.rf (gu_un.su jU9 rfl)) (show (1300 : Nat) ∈ ([1300] : List Nat) by decide)) (by rw [show y28.toInt = x9_5.toInt + 1 by omega, h7.2]; try (congr 1; omega)) (by (first | omega | (simp only [Int32.reduceToInt, true_and, and_true, ne_eq, not_true_eq_false, false_and, or_false, false_or, true_or, or_true, false_implies] <;> omega))) (fun hg => mPush hg (by omega) (by omega) (by omega) (ev hg) (by omega) (show (gu_up Gj9 13 (x9_4.toInt).toNat p1) 13 = (upd (Gj9 13) (x9_4.toInt).toNat p1) from rfl) (by omega) (by omega) (show (0 : Int) ≤ (G 11 (x9_5.toInt).toNat).toInt from (hI 11 _).1) (by first | exact Or.inl ⟨by omega, rfl⟩ | exact Or.inr (Or.inl ⟨by omega, by omega, rfl⟩) | exact Or.inr (Or.inr ⟨by omega, by omega, rfl⟩)))
          · refine g_iload F 0 dX13_sumOf_61 rfl ?_
            refine g_goto F 76 dX13_sumOf_63 (by decide) ?_
            have h7 : True ∧ rpk (G 10) (G 11) (80 * s0) (x9_5.toInt + 1) = some ((x9_4.toInt).toNat + 1) := by
              rcases rpk_step (by omega) (by omega) rpx (yW3.at (k := x9_5.toInt) wf (by omega) (by omega) (by omega) (by omega)) with ⟨h1, h2⟩ | ⟨h1, h2, h3, h4⟩ | ⟨h1, h2, h3, h4⟩ <;> first | exact ⟨trivial, h2⟩ | exact ⟨h3, h4⟩ | (exfalso; omega)
            have h6 := h7.1
            refine u_iast F 13 0 yc_13 rfl x9_4.toInt rfl (by omega) (by omega) (yW K a (gu_up Gj9 13 (x9_4.toInt).toNat ((G 11) (x9_5.toInt).toNat))) (ys_13 _) dX13_sumOf_76 ?_
            refine u_iinc F (fun v_ => [(4, .int v_), (6, .int ((G 11) (x9_5.toInt).toNat)), (0, .ref (a 0)), (1, .int p0), (2, .int p1), (3, .int p2), (5, .int x9_5)]) dX13_sumOf_77 (j := 5) rfl x9_4.toInt 1 rfl rfl (by omega) (by omega) (by decide) (fun _ => rfl) (fun y29 ey29 => ?_)
            refine g_goto F 145 dX13_sumOf_80 (by decide) ?_
            refine u_iinc F (fun v_ => [(5, .int v_), (4, .int y29), (6, .int ((G 11) (x9_5.toInt).toNat)), (0, .ref (a 0)), (1, .int p0), (2, .int p1), (3, .int p2)]) dX13_sumOf_145 (j := 6) rfl x9_5.toInt 1 rfl rfl (by omega) (by omega) (by decide) (fun _ => rfl) (fun y30 ey30 => ?_)
            refine g_goto F 9 dX13_sumOf_148 (by decide) ?_
            refine g_locals [(0, .ref (a 0)), (1, .int p0), (2, .int p1), (3, .int p2), (4, .int y29), (5, .int y30)] [3, 4, 5, 6, 1, 0] rfl ?_
            exact ih_9 y29 y30 (gu_up Gj9 13 (x9_4.toInt).toNat ((G 11) (x9_5.toInt).toNat)) (by omega) (by have h9 := ti_rng y29; omega) (by have h9 := ti_rng y30; omega) (gu_I.up (j := 13) (k := (x9_4.toInt).toNat) (v := ((G 11) (x9_5.toInt).toNat)) jI9 (ti_rng _).1 (ti_rng _).2) (gu_un.up (j := 13) (k := (x9_4.toInt).toNat) (v := ((G 11) (x9_5.toInt).toNat)) (gu_un.tr gu_un.rf (gu_un.su jU9 rfl)) (show (1300 : Nat) ∈ ([1300] : List Nat) by decide)) (by rw [show y30.toInt = x9_5.toInt + 1 by omega, h7.2]; try (congr 1; omega)) (by (first | omega | (simp only [Int32.reduceToInt, true_and, and_true, ne_eq, not_true_eq_false, false_and, or_false, false_or, true_or, or_true, false_implies] <;> omega))) (fun hg => mPush hg (by omega) (by omega) (by omega) (ev hg) (by omega) (show (gu_up Gj9 13 (x9_4.toInt).toNat ((G 11) (x9_5.toInt).toNat)) 13 = (upd (Gj9 13) (x9_4.toInt).toNat ((G 11) (x9_5.toInt).toNat)) from rfl) (by omega) (by omega) (show (0 : Int) ≤ (G 11 (x9_5.toInt).toNat).toInt from (hI 11 _).1) (by first | exact Or.inl ⟨by omega, rfl⟩ | exact Or.inr (Or.inl ⟨by omega, by omega, rfl⟩) | exact Or.inr (Or.inr ⟨by omega, by omega, rfl⟩)))
  refine g_iconst F 0 dX13_sumOf_0 (by decide) ?_
  refine g_istore F [(4, .int 0), (0, .ref (a 0)), (1, .int p0), (2, .int p1), (3, .int p2)] dX13_sumOf_1 (by decide) rfl ?_
  refine g_bipush F 80 dX13_sumOf_3 (by decide) ?_
  refine g_iload_n F 2 dX13_sumOf_5 rfl rfl ?_
  refine u_imul F dX13_sumOf_6 80 s0 rfl e0 (by omega) (by omega) (fun y31 ey31 => ?_)
  refine g_istore F [(5, .int y31), (4, .int 0), (0, .ref (a 0)), (1, .int p0), (2, .int p1), (3, .int p2)] dX13_sumOf_7 (by decide) rfl ?_
  refine g_locals [(0, .ref (a 0)), (1, .int p0), (2, .int p1), (3, .int p2), (4, .int 0), (5, .int y31)] [2, 3, 4, 5, 1, 0] rfl ?_
  exact J_9 _ 0 y31 G (Nat.lt_succ_self _) (by decide) (by have h9 := ti_rng y31; omega) hI gu_un.rf (by rw [show y31.toInt = 80 * s0 by omega]; exact rpk_0) (by (first | omega | (simp only [Int32.reduceToInt, true_and, and_true, ne_eq, not_true_eq_false, false_and, or_false, false_or, true_or, or_true, false_implies] <;> omega))) (fun _ => by show _ = eS p1 p2 (mkr (G 10) (G 11) (80 * s0).toNat (y31.toInt - 80 * s0).toNat); rw [show y31.toInt - 80 * s0 = 0 by omega]; rfl)

theorem dX13_force_0 : decode cX13_force 0 = .ok (.sipush (-9999), 3) := by decide +kernel
theorem dX13_force_3 : decode cX13_force 3 = .ok (.sipush 9999, 3) := by decide +kernel
theorem dX13_force_6 : decode cX13_force 6 = .ok (.aload_n 0, 1) := by decide +kernel
theorem dX13_force_7 : decode cX13_force 7 = .ok (.iconst 0, 1) := by decide +kernel
theorem dX13_force_8 : decode cX13_force 8 = .ok (.iload_n 1, 1) := by decide +kernel
theorem dX13_force_9 : decode cX13_force 9 = .ok (.iload_n 2, 1) := by decide +kernel
theorem dX13_force_10 : decode cX13_force 10 = .ok (.invokevirtual 144, 3) := by decide +kernel
theorem dX13_force_13 : decode cX13_force 13 = .ok (.invokestatic 147, 3) := by decide +kernel
theorem dX13_force_16 : decode cX13_force 16 = .ok (.invokestatic 152, 3) := by decide +kernel
theorem dX13_force_19 : decode cX13_force 19 = .ok (.ireturn, 1) := by decide +kernel
set_option maxRecDepth 20000 in
theorem ggX13_force_X13_sumOf : GoodIn wsX13_force wsX13_sumOf := goodIn_r _ [12, 13, 14, 15, 16, 17, 18, 11, 19, 20, 21, 22, 23, 24, 25, 26, 27, 28, 29, 30, 31, 32, 33, 34, 35, 36, 37, 38, 39, 40, 41, 42, 43, 44, 45, 46, 47, 48, 49, 50, 51, 52, 53, 54, 55, 56, 57, 58, 59, 60, 61, 62, 63, 64, 65, 66, 67, 68, 69, 70, 71, 72, 73, 74, 75, 76, 77, 78, 79, 80, 81, 82, 83, 84, 85, 86, 87, 88, 89, 90, 91, 92] rfl (by decide +kernel)
set_option maxRecDepth 20000 in
theorem gX13_force_X13_sumOf : GoodIn wsX13_force (wsV RX13 144 RX13 yX13_sumOf wsX13_sumOf) := goodIn_app (goodIn_of _ (by decide +kernel)) ggX13_force_X13_sumOf
set_option maxHeartbeats 4000000 in
set_option maxRecDepth 100000 in
theorem S_X13_force (l : Launch) (D : va_G) (K : Nat → ClassId) (a : Nat → Nat) (G : gS) (p0 : Int32) (s0 : Int) (p1 : Int32) (s1 : Int) (e0 : p0.toInt = s0) (e1 : p1.toInt = s1) (wf : yW3 G) (hI : yI G) (sz : Nat) : Ki l yX13_force wsX13_force 3 88 0 0 D [.ref (a 0), .int p0, .int p1] (yW K a G) (tK K) sz (fun (r : Int32) (G' : gS) => (yI G') ∧ (gu_un ycd [1300] G G') ∧ ((-9999) ≤ r.toInt ∧ r.toInt ≤ 9999) ∧ ((gcOK (mL 0 G) → Int32.ofInt r.toInt = psC (-9999) 9999 (eV p0 p1 (mL 0 G))))) (fun (G' : gS) => (yW K a G')) (fun _ => (tK K)) := by
  unfold Ki
  refine g_ofW (cc := cX13_force) (lv := [(0, .ref (a 0)), (1, .int p0), (2, .int p1)]) (by decide) rfl (Nat.le_of_ble_eq_true rfl) rfl ?_
  intro p e s m args below meth c A Q hA hQ F hr hnm
  have hts := F.2.2.2.2.1
  have w_0 : (Cond.methodLink RX13 147 Lib.Math.min.name).before args s = true := hts _ (List.mem_of_getElem? (i := 1) rfl)
  have w_1 : (Cond.static Lib.Math.min.name).before args s = true := hts _ (List.mem_of_getElem? (i := 2) rfl)
  have w_2 : (Cond.initialized "java/lang/Math").before args s = true := hts _ (List.mem_of_getElem? (i := 3) rfl)
  have w_3 : (Cond.code Lib.Math.min.name Lib.Math.min.code 2 (some .int)).before args s = true := hts _ (List.mem_of_getElem? (i := 4) rfl)
  have w_4 : (Cond.methodLink RX13 152 Lib.Math.max.name).before args s = true := hts _ (List.mem_of_getElem? (i := 5) rfl)
  have w_5 : (Cond.static Lib.Math.max.name).before args s = true := hts _ (List.mem_of_getElem? (i := 6) rfl)
  have w_6 : (Cond.code Lib.Math.max.name Lib.Math.max.code 2 (some .int)).before args s = true := hts _ (List.mem_of_getElem? (i := 7) rfl)
  have rg0 : -2147483648 ≤ s0 ∧ s0 ≤ 2147483647 := e0 ▸ ti_rng p0
  have rg1 : -2147483648 ≤ s1 ∧ s1 ≤ 2147483647 := e1 ▸ ti_rng p1
  refine g_sipush F (-9999) dX13_force_0 (by decide) ?_
  refine g_sipush F 9999 dX13_force_3 (by decide) ?_
  refine g_aload_n F 0 dX13_force_6 rfl rfl ?_
  refine g_iconst F 0 dX13_force_7 (by decide) ?_
  refine g_iload_n F 1 dX13_force_8 rfl rfl ?_
  refine g_iload_n F 2 dX13_force_9 rfl rfl ?_
  refine u_callVi (k := 0) (n := 0) (b := a 0) (As := [.int 0, .int p0, .int p1]) (st := [.int 9999, .int (-9999)]) F (fun sz => S_X13_sumOf l D K a G 0 0 p0 s0 p1 s1 rfl (by decide) e0 e1 (wf) hI sz) (cwV 3 hts gX13_force_X13_sumOf rfl rfl rfl (by decide +kernel) ⟨Nat.le_of_ble_eq_true rfl, Nat.le_of_ble_eq_true rfl⟩) rfl 0 yc_0 rfl (Nat.le_of_ble_eq_true rfl) ⟨Nat.zero_le _, Nat.zero_le _⟩ dX13_force_10 (fun r1 G3 hw2 => ?_)
  have hI4 : yI G3 := hw2.1
  have hU5 : gu_un ycd [1300] G G3 := hw2.2.1
  have hp6 := hw2.2.2
  have q7 : (gcOK (mL (0 : Int) G) → r1.toInt = (eV p0 p1 (mL (0 : Int) G)).toInt) := hp6
  clear hp6 hw2
  refine u_mmin F w_0 w_1 w_2 w_3 (Nat.le_of_ble_eq_true rfl) (Nat.le_of_ble_eq_true rfl) (Nat.le_of_ble_eq_true rfl) (Nat.le_of_ble_eq_true rfl) dX13_force_13 9999 r1.toInt rfl rfl (fun y8 ey8 => ?_)
  have b10 := ti_rng y8
  refine u_mmax F w_4 w_5 w_2 w_6 (Nat.le_of_ble_eq_true rfl) (Nat.le_of_ble_eq_true rfl) (Nat.le_of_ble_eq_true rfl) (Nat.le_of_ble_eq_true rfl) dX13_force_16 (-9999) y8.toInt rfl rfl (fun y9 ey9 => ?_)
  exact u_iret F hA hQ hr G3 (⟨hI4, (gu_un.tr gu_un.rf (gu_un.su hU5 rfl)), (by have h9 := ti_rng y9; omega), (fun hg => by rw [Int32.ofInt_toInt]; exact psC_of (by omega) (q7 hg))⟩) rfl rfl dX13_force_19

theorem dX13_wall_0 : decode cX13_wall 0 = .ok (.iconst 0, 1) := by decide +kernel
theorem dX13_wall_1 : decode cX13_wall 1 = .ok (.sipush 999, 3) := by decide +kernel
theorem dX13_wall_4 : decode cX13_wall 4 = .ok (.aload_n 0, 1) := by decide +kernel
theorem dX13_wall_5 : decode cX13_wall 5 = .ok (.iconst 1, 1) := by decide +kernel
theorem dX13_wall_6 : decode cX13_wall 6 = .ok (.iload_n 1, 1) := by decide +kernel
theorem dX13_wall_7 : decode cX13_wall 7 = .ok (.iload_n 2, 1) := by decide +kernel
theorem dX13_wall_8 : decode cX13_wall 8 = .ok (.invokevirtual 144, 3) := by decide +kernel
theorem dX13_wall_11 : decode cX13_wall 11 = .ok (.invokestatic 147, 3) := by decide +kernel
theorem dX13_wall_14 : decode cX13_wall 14 = .ok (.invokestatic 152, 3) := by decide +kernel
theorem dX13_wall_17 : decode cX13_wall 17 = .ok (.ireturn, 1) := by decide +kernel
set_option maxRecDepth 20000 in
theorem ggX13_wall_X13_sumOf : GoodIn wsX13_wall wsX13_sumOf := goodIn_r _ [12, 13, 14, 15, 16, 17, 18, 11, 19, 20, 21, 22, 23, 24, 25, 26, 27, 28, 29, 30, 31, 32, 33, 34, 35, 36, 37, 38, 39, 40, 41, 42, 43, 44, 45, 46, 47, 48, 49, 50, 51, 52, 53, 54, 55, 56, 57, 58, 59, 60, 61, 62, 63, 64, 65, 66, 67, 68, 69, 70, 71, 72, 73, 74, 75, 76, 77, 78, 79, 80, 81, 82, 83, 84, 85, 86, 87, 88, 89, 90, 91, 92] rfl (by decide +kernel)
set_option maxRecDepth 20000 in
theorem gX13_wall_X13_sumOf : GoodIn wsX13_wall (wsV RX13 144 RX13 yX13_sumOf wsX13_sumOf) := goodIn_app (goodIn_of _ (by decide +kernel)) ggX13_wall_X13_sumOf
set_option maxHeartbeats 4000000 in
set_option maxRecDepth 100000 in
theorem S_X13_wall (l : Launch) (D : va_G) (K : Nat → ClassId) (a : Nat → Nat) (G : gS) (p0 : Int32) (s0 : Int) (p1 : Int32) (s1 : Int) (e0 : p0.toInt = s0) (e1 : p1.toInt = s1) (wf : yW3 G) (hI : yI G) (sz : Nat) : Ki l yX13_wall wsX13_wall 3 88 0 0 D [.ref (a 0), .int p0, .int p1] (yW K a G) (tK K) sz (fun (r : Int32) (G' : gS) => (yI G') ∧ (gu_un ycd [1300] G G') ∧ (0 ≤ r.toInt ∧ r.toInt ≤ 999) ∧ ((gcOK (mL 1 G) → Int32.ofInt r.toInt = psC (0) 999 (eV p0 p1 (mL 1 G))))) (fun (G' : gS) => (yW K a G')) (fun _ => (tK K)) := by
  unfold Ki
  refine g_ofW (cc := cX13_wall) (lv := [(0, .ref (a 0)), (1, .int p0), (2, .int p1)]) (by decide) rfl (Nat.le_of_ble_eq_true rfl) rfl ?_
  intro p e s m args below meth c A Q hA hQ F hr hnm
  have hts := F.2.2.2.2.1
  have w_0 : (Cond.methodLink RX13 147 Lib.Math.min.name).before args s = true := hts _ (List.mem_of_getElem? (i := 1) rfl)
  have w_1 : (Cond.static Lib.Math.min.name).before args s = true := hts _ (List.mem_of_getElem? (i := 2) rfl)
  have w_2 : (Cond.initialized "java/lang/Math").before args s = true := hts _ (List.mem_of_getElem? (i := 3) rfl)
  have w_3 : (Cond.code Lib.Math.min.name Lib.Math.min.code 2 (some .int)).before args s = true := hts _ (List.mem_of_getElem? (i := 4) rfl)
  have w_4 : (Cond.methodLink RX13 152 Lib.Math.max.name).before args s = true := hts _ (List.mem_of_getElem? (i := 5) rfl)
  have w_5 : (Cond.static Lib.Math.max.name).before args s = true := hts _ (List.mem_of_getElem? (i := 6) rfl)
  have w_6 : (Cond.code Lib.Math.max.name Lib.Math.max.code 2 (some .int)).before args s = true := hts _ (List.mem_of_getElem? (i := 7) rfl)
  have rg0 : -2147483648 ≤ s0 ∧ s0 ≤ 2147483647 := e0 ▸ ti_rng p0
  have rg1 : -2147483648 ≤ s1 ∧ s1 ≤ 2147483647 := e1 ▸ ti_rng p1
  refine g_iconst F 0 dX13_wall_0 (by decide) ?_
  refine g_sipush F 999 dX13_wall_1 (by decide) ?_
  refine g_aload_n F 0 dX13_wall_4 rfl rfl ?_
  refine g_iconst F 1 dX13_wall_5 (by decide) ?_
  refine g_iload_n F 1 dX13_wall_6 rfl rfl ?_
  refine g_iload_n F 2 dX13_wall_7 rfl rfl ?_
  refine u_callVi (k := 0) (n := 0) (b := a 0) (As := [.int 1, .int p0, .int p1]) (st := [.int 999, .int 0]) F (fun sz => S_X13_sumOf l D K a G 1 1 p0 s0 p1 s1 rfl (by decide) e0 e1 (wf) hI sz) (cwV 3 hts gX13_wall_X13_sumOf rfl rfl rfl (by decide +kernel) ⟨Nat.le_of_ble_eq_true rfl, Nat.le_of_ble_eq_true rfl⟩) rfl 0 yc_0 rfl (Nat.le_of_ble_eq_true rfl) ⟨Nat.zero_le _, Nat.zero_le _⟩ dX13_wall_8 (fun r1 G3 hw2 => ?_)
  have hI4 : yI G3 := hw2.1
  have hU5 : gu_un ycd [1300] G G3 := hw2.2.1
  have hp6 := hw2.2.2
  have q7 : (gcOK (mL (1 : Int) G) → r1.toInt = (eV p0 p1 (mL (1 : Int) G)).toInt) := hp6
  clear hp6 hw2
  refine u_mmin F w_0 w_1 w_2 w_3 (Nat.le_of_ble_eq_true rfl) (Nat.le_of_ble_eq_true rfl) (Nat.le_of_ble_eq_true rfl) (Nat.le_of_ble_eq_true rfl) dX13_wall_11 999 r1.toInt rfl rfl (fun y8 ey8 => ?_)
  have b10 := ti_rng y8
  refine u_mmax F w_4 w_5 w_2 w_6 (Nat.le_of_ble_eq_true rfl) (Nat.le_of_ble_eq_true rfl) (Nat.le_of_ble_eq_true rfl) (Nat.le_of_ble_eq_true rfl) dX13_wall_14 0 y8.toInt rfl rfl (fun y9 ey9 => ?_)
  exact u_iret F hA hQ hr G3 (⟨hI4, (gu_un.tr gu_un.rf (gu_un.su hU5 rfl)), (by have h9 := ti_rng y9; omega), (fun hg => by rw [Int32.ofInt_toInt]; exact psC_of (by omega) (q7 hg))⟩) rfl rfl dX13_wall_17

theorem dX13_tells_0 : decode cX13_tells 0 = .ok (.iload_n 1, 1) := by decide +kernel
theorem dX13_tells_1 : decode cX13_tells 1 = .ok (.i2l, 1) := by decide +kernel
theorem dX13_tells_2 : decode cX13_tells 2 = .ok (.lconst 0, 1) := by decide +kernel
theorem dX13_tells_3 : decode cX13_tells 3 = .ok (.ldc2_w 360, 3) := by decide +kernel
theorem dX13_tells_6 : decode cX13_tells 6 = .ok (.invokestatic 61, 3) := by decide +kernel
theorem dX13_tells_9 : decode cX13_tells 9 = .ok (.ifCond .eq 13, 3) := by decide +kernel
theorem dX13_tells_12 : decode cX13_tells 12 = .ok (.aload_n 0, 1) := by decide +kernel
theorem dX13_tells_13 : decode cX13_tells 13 = .ok (.iload_n 1, 1) := by decide +kernel
theorem dX13_tells_14 : decode cX13_tells 14 = .ok (.iload_n 2, 1) := by decide +kernel
theorem dX13_tells_15 : decode cX13_tells 15 = .ok (.iload_n 3, 1) := by decide +kernel
theorem dX13_tells_16 : decode cX13_tells 16 = .ok (.invokevirtual 144, 3) := by decide +kernel
theorem dX13_tells_19 : decode cX13_tells 19 = .ok (.goto 4, 3) := by decide +kernel
theorem dX13_tells_22 : decode cX13_tells 22 = .ok (.iconst 0, 1) := by decide +kernel
theorem dX13_tells_23 : decode cX13_tells 23 = .ok (.ireturn, 1) := by decide +kernel
set_option maxRecDepth 20000 in
theorem ggX13_tells_X13_in : GoodIn wsX13_tells wsX13_in := goodIn_r _ [5] rfl (by decide +kernel)
set_option maxRecDepth 20000 in
theorem gX13_tells_X13_in : GoodIn wsX13_tells (va_wsS RX13 61 yX13_in wsX13_in) := goodIn_app (goodIn_of _ (by decide +kernel)) ggX13_tells_X13_in
set_option maxRecDepth 20000 in
theorem ggX13_tells_X13_sumOf : GoodIn wsX13_tells wsX13_sumOf := goodIn_r _ [9, 10, 11, 12, 13, 14, 15, 4, 16, 17, 18, 19, 20, 21, 22, 23, 24, 25, 26, 27, 28, 29, 30, 31, 32, 33, 34, 35, 36, 37, 38, 39, 40, 41, 42, 43, 44, 45, 46, 47, 48, 49, 50, 51, 52, 53, 54, 55, 56, 57, 58, 59, 60, 61, 62, 63, 64, 65, 66, 67, 68, 69, 70, 71, 72, 73, 74, 75, 76, 77, 78, 79, 80, 81, 82, 83, 84, 85, 86, 87, 88, 89] rfl (by decide +kernel)
set_option maxRecDepth 20000 in
theorem gX13_tells_X13_sumOf : GoodIn wsX13_tells (wsV RX13 144 RX13 yX13_sumOf wsX13_sumOf) := goodIn_app (goodIn_of _ (by decide +kernel)) ggX13_tells_X13_sumOf
set_option maxHeartbeats 4000000 in
set_option maxRecDepth 100000 in
theorem S_X13_tells (l : Launch) (D : va_G) (K : Nat → ClassId) (a : Nat → Nat) (G : gS) (p0 : Int32) (s0 : Int) (p1 : Int32) (s1 : Int) (p2 : Int32) (s2 : Int) (e0 : p0.toInt = s0) (e1 : p1.toInt = s1) (e2 : p2.toInt = s2) (wf : yW3 G) (hI : yI G) (sz : Nat) : Ki l yX13_tells wsX13_tells 3 88 0 0 D [.ref (a 0), .int p0, .int p1, .int p2] (yW K a G) (tK K) sz (fun (r : Int32) (G' : gS) => (yI G') ∧ (gu_un ycd [1300] G G') ∧ ((((s0 < 0 ∨ 2 < s0) ∧ r.toInt = 0) ∨ (0 ≤ s0 ∧ s0 ≤ 2 ∧ (gcOK (mL s0 G) → r.toInt = (eV p1 p2 (mL s0 G)).toInt))))) (fun (G' : gS) => (yW K a G')) (fun _ => (tK K)) := by
  unfold Ki
  refine g_ofW (cc := cX13_tells) (lv := [(0, .ref (a 0)), (1, .int p0), (2, .int p1), (3, .int p2)]) (by decide) rfl (Nat.le_of_ble_eq_true rfl) rfl ?_
  intro p e s m args below meth c A Q hA hQ F hr hnm
  have hts := F.2.2.2.2.1
  have w_0 : (Cond.constantLong RX13 360 (2)).before args s = true := hts _ (List.mem_of_getElem? (i := 1) rfl)
  have rg0 : -2147483648 ≤ s0 ∧ s0 ≤ 2147483647 := e0 ▸ ti_rng p0
  have rg1 : -2147483648 ≤ s1 ∧ s1 ≤ 2147483647 := e1 ▸ ti_rng p1
  have rg2 : -2147483648 ≤ s2 ∧ s2 ≤ 2147483647 := e2 ▸ ti_rng p2
  refine g_iload_n F 1 dX13_tells_0 rfl rfl ?_
  refine g_i2l F dX13_tells_1 ?_
  refine g_lconst F 0 dX13_tells_2 (by decide) ?_
  refine g_ldc2 F w_0 dX13_tells_3 ?_
  refine u_call0 (k := 0) (n := 0) (As := [.long (Int32.toInt64 p0), .long 0, .long 2]) (st := []) F (fun sz => S_X13_in l D (Int32.toInt64 p0) s0 0 0 2 2 (ti_i2l e0) rfl rfl sz) (va_cwS 3 hts gX13_tells_X13_in rfl rfl rfl (by decide +kernel) ⟨Nat.le_of_ble_eq_true rfl, Nat.le_of_ble_eq_true rfl⟩) rfl (Nat.le_of_ble_eq_true rfl) ⟨Nat.zero_le _, Nat.zero_le _⟩ dX13_tells_6 (fun r1 _ hw2 => ?_)
  rcases hw2 with ⟨rfl, q4⟩ | ⟨rfl, q5⟩
  · refine v_if_eq F 22 dX13_tells_9 (by decide) 1 rfl (fun c6 => absurd c6 (by decide)) (fun c6 => ?_)
    refine g_aload_n F 0 dX13_tells_12 rfl rfl ?_
    refine g_iload_n F 1 dX13_tells_13 rfl rfl ?_
    refine g_iload_n F 2 dX13_tells_14 rfl rfl ?_
    refine g_iload_n F 3 dX13_tells_15 rfl rfl ?_
    refine u_callVi (k := 0) (n := 0) (b := a 0) (As := [.int p0, .int p1, .int p2]) (st := []) F (fun sz => S_X13_sumOf l D K a G p0 s0 p1 s1 p2 s2 e0 (by omega) e1 e2 (wf) hI sz) (cwV 3 hts gX13_tells_X13_sumOf rfl rfl rfl (by decide +kernel) ⟨Nat.le_of_ble_eq_true rfl, Nat.le_of_ble_eq_true rfl⟩) rfl 0 yc_0 rfl (Nat.le_of_ble_eq_true rfl) ⟨Nat.zero_le _, Nat.zero_le _⟩ dX13_tells_16 (fun r7 G9 hw8 => ?_)
    have hI10 : yI G9 := hw8.1
    have hU11 : gu_un ycd [1300] G G9 := hw8.2.1
    have hp12 := hw8.2.2
    have q13 : (gcOK (mL s0 G) → r7.toInt = (eV p1 p2 (mL s0 G)).toInt) := hp12
    clear hp12 hw8
    refine g_goto F 23 dX13_tells_19 (by decide) ?_
    exact u_iret F hA hQ hr G9 (⟨hI10, (gu_un.tr gu_un.rf (gu_un.su hU11 rfl)), (Or.inr ⟨by omega, by omega, q13⟩)⟩) rfl rfl dX13_tells_23
  · refine v_if_eq F 22 dX13_tells_9 (by decide) 0 rfl (fun c14 => ?_) (fun c14 => absurd c14 (by decide))
    refine g_iconst F 0 dX13_tells_22 (by decide) ?_
    exact u_iret F hA hQ hr G (⟨hI, gu_un.rf, (Or.inl ⟨by omega, by decide⟩)⟩) rfl rfl dX13_tells_23

theorem dX13_teethAt_0 : decode cX13_teethAt 0 = .ok (.iconst 0, 1) := by decide +kernel
theorem dX13_teethAt_1 : decode cX13_teethAt 1 = .ok (.istore 7, 2) := by decide +kernel
theorem dX13_teethAt_3 : decode cX13_teethAt 3 = .ok (.iconst 0, 1) := by decide +kernel
theorem dX13_teethAt_4 : decode cX13_teethAt 4 = .ok (.istore 8, 2) := by decide +kernel
theorem dX13_teethAt_6 : decode cX13_teethAt 6 = .ok (.iload 8, 2) := by decide +kernel
theorem dX13_teethAt_8 : decode cX13_teethAt 8 = .ok (.aload_n 0, 1) := by decide +kernel
theorem dX13_teethAt_9 : decode cX13_teethAt 9 = .ok (.getfield 199, 3) := by decide +kernel
theorem dX13_teethAt_12 : decode cX13_teethAt 12 = .ok (.bipush 10, 2) := by decide +kernel
theorem dX13_teethAt_14 : decode cX13_teethAt 14 = .ok (.iaload, 1) := by decide +kernel
theorem dX13_teethAt_15 : decode cX13_teethAt 15 = .ok (.if_icmp .ge 191, 3) := by decide +kernel
theorem dX13_teethAt_18 : decode cX13_teethAt 18 = .ok (.iload_n 1, 1) := by decide +kernel
theorem dX13_teethAt_19 : decode cX13_teethAt 19 = .ok (.iload_n 2, 1) := by decide +kernel
theorem dX13_teethAt_20 : decode cX13_teethAt 20 = .ok (.aload_n 0, 1) := by decide +kernel
theorem dX13_teethAt_21 : decode cX13_teethAt 21 = .ok (.getfield 202, 3) := by decide +kernel
theorem dX13_teethAt_24 : decode cX13_teethAt 24 = .ok (.iload 8, 2) := by decide +kernel
theorem dX13_teethAt_26 : decode cX13_teethAt 26 = .ok (.iaload, 1) := by decide +kernel
theorem dX13_teethAt_27 : decode cX13_teethAt 27 = .ok (.iadd, 1) := by decide +kernel
theorem dX13_teethAt_28 : decode cX13_teethAt 28 = .ok (.aload_n 0, 1) := by decide +kernel
theorem dX13_teethAt_29 : decode cX13_teethAt 29 = .ok (.getfield 199, 3) := by decide +kernel
theorem dX13_teethAt_32 : decode cX13_teethAt 32 = .ok (.iconst 0, 1) := by decide +kernel
theorem dX13_teethAt_33 : decode cX13_teethAt 33 = .ok (.iaload, 1) := by decide +kernel
theorem dX13_teethAt_34 : decode cX13_teethAt 34 = .ok (.irem, 1) := by decide +kernel
theorem dX13_teethAt_35 : decode cX13_teethAt 35 = .ok (.invokestatic 378, 3) := by decide +kernel
theorem dX13_teethAt_38 : decode cX13_teethAt 38 = .ok (.istore 9, 2) := by decide +kernel
theorem dX13_teethAt_40 : decode cX13_teethAt 40 = .ok (.iload 4, 2) := by decide +kernel
theorem dX13_teethAt_42 : decode cX13_teethAt 42 = .ok (.iload 5, 2) := by decide +kernel
theorem dX13_teethAt_44 : decode cX13_teethAt 44 = .ok (.iload_n 3, 1) := by decide +kernel
theorem dX13_teethAt_45 : decode cX13_teethAt 45 = .ok (.iconst 1, 1) := by decide +kernel
theorem dX13_teethAt_46 : decode cX13_teethAt 46 = .ok (.iadd, 1) := by decide +kernel
theorem dX13_teethAt_47 : decode cX13_teethAt 47 = .ok (.imul, 1) := by decide +kernel
theorem dX13_teethAt_48 : decode cX13_teethAt 48 = .ok (.isub, 1) := by decide +kernel
theorem dX13_teethAt_49 : decode cX13_teethAt 49 = .ok (.aload_n 0, 1) := by decide +kernel
theorem dX13_teethAt_50 : decode cX13_teethAt 50 = .ok (.getfield 392, 3) := by decide +kernel
theorem dX13_teethAt_53 : decode cX13_teethAt 53 = .ok (.iadd, 1) := by decide +kernel
theorem dX13_teethAt_54 : decode cX13_teethAt 54 = .ok (.istore 10, 2) := by decide +kernel
theorem dX13_teethAt_56 : decode cX13_teethAt 56 = .ok (.aload_n 0, 1) := by decide +kernel
theorem dX13_teethAt_57 : decode cX13_teethAt 57 = .ok (.getfield 214, 3) := by decide +kernel
theorem dX13_teethAt_60 : decode cX13_teethAt 60 = .ok (.iload 9, 2) := by decide +kernel
theorem dX13_teethAt_62 : decode cX13_teethAt 62 = .ok (.iaload, 1) := by decide +kernel
theorem dX13_teethAt_63 : decode cX13_teethAt 63 = .ok (.iload 10, 2) := by decide +kernel
theorem dX13_teethAt_65 : decode cX13_teethAt 65 = .ok (.isub, 1) := by decide +kernel
theorem dX13_teethAt_66 : decode cX13_teethAt 66 = .ok (.istore 11, 2) := by decide +kernel
theorem dX13_teethAt_68 : decode cX13_teethAt 68 = .ok (.iload 11, 2) := by decide +kernel
theorem dX13_teethAt_70 : decode cX13_teethAt 70 = .ok (.ifCond .gt 16, 3) := by decide +kernel
theorem dX13_teethAt_73 : decode cX13_teethAt 73 = .ok (.aload_n 0, 1) := by decide +kernel
theorem dX13_teethAt_74 : decode cX13_teethAt 74 = .ok (.getfield 235, 3) := by decide +kernel
theorem dX13_teethAt_77 : decode cX13_teethAt 77 = .ok (.iconst 2, 1) := by decide +kernel
theorem dX13_teethAt_78 : decode cX13_teethAt 78 = .ok (.dup2, 1) := by decide +kernel
theorem dX13_teethAt_79 : decode cX13_teethAt 79 = .ok (.iaload, 1) := by decide +kernel
theorem dX13_teethAt_80 : decode cX13_teethAt 80 = .ok (.iconst 1, 1) := by decide +kernel
theorem dX13_teethAt_81 : decode cX13_teethAt 81 = .ok (.iadd, 1) := by decide +kernel
theorem dX13_teethAt_82 : decode cX13_teethAt 82 = .ok (.iastore, 1) := by decide +kernel
theorem dX13_teethAt_83 : decode cX13_teethAt 83 = .ok (.goto 117, 3) := by decide +kernel
theorem dX13_teethAt_86 : decode cX13_teethAt 86 = .ok (.iload 7, 2) := by decide +kernel
theorem dX13_teethAt_88 : decode cX13_teethAt 88 = .ok (.aload_n 0, 1) := by decide +kernel
theorem dX13_teethAt_89 : decode cX13_teethAt 89 = .ok (.iload 11, 2) := by decide +kernel
theorem dX13_teethAt_91 : decode cX13_teethAt 91 = .ok (.aload_n 0, 1) := by decide +kernel
theorem dX13_teethAt_92 : decode cX13_teethAt 92 = .ok (.getfield 362, 3) := by decide +kernel
theorem dX13_teethAt_95 : decode cX13_teethAt 95 = .ok (.invokevirtual 395, 3) := by decide +kernel
theorem dX13_teethAt_98 : decode cX13_teethAt 98 = .ok (.iadd, 1) := by decide +kernel
theorem dX13_teethAt_99 : decode cX13_teethAt 99 = .ok (.istore 7, 2) := by decide +kernel
theorem dX13_teethAt_101 : decode cX13_teethAt 101 = .ok (.iconst 0, 1) := by decide +kernel
theorem dX13_teethAt_102 : decode cX13_teethAt 102 = .ok (.aload_n 0, 1) := by decide +kernel
theorem dX13_teethAt_103 : decode cX13_teethAt 103 = .ok (.iconst 2, 1) := by decide +kernel
theorem dX13_teethAt_104 : decode cX13_teethAt 104 = .ok (.iload 11, 2) := by decide +kernel
theorem dX13_teethAt_106 : decode cX13_teethAt 106 = .ok (.iconst 0, 1) := by decide +kernel
theorem dX13_teethAt_107 : decode cX13_teethAt 107 = .ok (.invokevirtual 144, 3) := by decide +kernel
theorem dX13_teethAt_110 : decode cX13_teethAt 110 = .ok (.invokestatic 152, 3) := by decide +kernel
theorem dX13_teethAt_113 : decode cX13_teethAt 113 = .ok (.istore 12, 2) := by decide +kernel
theorem dX13_teethAt_115 : decode cX13_teethAt 115 = .ok (.aload_n 0, 1) := by decide +kernel
theorem dX13_teethAt_116 : decode cX13_teethAt 116 = .ok (.iload 12, 2) := by decide +kernel
theorem dX13_teethAt_118 : decode cX13_teethAt 118 = .ok (.sipush 30000, 3) := by decide +kernel
theorem dX13_teethAt_121 : decode cX13_teethAt 121 = .ok (.aload_n 0, 1) := by decide +kernel
theorem dX13_teethAt_122 : decode cX13_teethAt 122 = .ok (.getfield 362, 3) := by decide +kernel
theorem dX13_teethAt_125 : decode cX13_teethAt 125 = .ok (.isub, 1) := by decide +kernel
theorem dX13_teethAt_126 : decode cX13_teethAt 126 = .ok (.if_icmp .le 9, 3) := by decide +kernel
theorem dX13_teethAt_129 : decode cX13_teethAt 129 = .ok (.sipush 30000, 3) := by decide +kernel
theorem dX13_teethAt_132 : decode cX13_teethAt 132 = .ok (.goto 10, 3) := by decide +kernel
theorem dX13_teethAt_135 : decode cX13_teethAt 135 = .ok (.aload_n 0, 1) := by decide +kernel
theorem dX13_teethAt_136 : decode cX13_teethAt 136 = .ok (.getfield 362, 3) := by decide +kernel
theorem dX13_teethAt_139 : decode cX13_teethAt 139 = .ok (.iload 12, 2) := by decide +kernel
theorem dX13_teethAt_141 : decode cX13_teethAt 141 = .ok (.iadd, 1) := by decide +kernel
theorem dX13_teethAt_142 : decode cX13_teethAt 142 = .ok (.putfield 362, 3) := by decide +kernel
theorem dX13_teethAt_145 : decode cX13_teethAt 145 = .ok (.aload_n 0, 1) := by decide +kernel
theorem dX13_teethAt_146 : decode cX13_teethAt 146 = .ok (.getfield 214, 3) := by decide +kernel
theorem dX13_teethAt_149 : decode cX13_teethAt 149 = .ok (.iload 9, 2) := by decide +kernel
theorem dX13_teethAt_151 : decode cX13_teethAt 151 = .ok (.iload 10, 2) := by decide +kernel
theorem dX13_teethAt_153 : decode cX13_teethAt 153 = .ok (.iastore, 1) := by decide +kernel
theorem dX13_teethAt_154 : decode cX13_teethAt 154 = .ok (.iload 6, 2) := by decide +kernel
theorem dX13_teethAt_156 : decode cX13_teethAt 156 = .ok (.iconst (-1), 1) := by decide +kernel
theorem dX13_teethAt_157 : decode cX13_teethAt 157 = .ok (.if_icmp .ne 6, 3) := by decide +kernel
theorem dX13_teethAt_160 : decode cX13_teethAt 160 = .ok (.goto 40, 3) := by decide +kernel
theorem dX13_teethAt_163 : decode cX13_teethAt 163 = .ok (.aload_n 0, 1) := by decide +kernel
theorem dX13_teethAt_164 : decode cX13_teethAt 164 = .ok (.getfield 217, 3) := by decide +kernel
theorem dX13_teethAt_167 : decode cX13_teethAt 167 = .ok (.iload 9, 2) := by decide +kernel
theorem dX13_teethAt_169 : decode cX13_teethAt 169 = .ok (.iload 6, 2) := by decide +kernel
theorem dX13_teethAt_171 : decode cX13_teethAt 171 = .ok (.iastore, 1) := by decide +kernel
theorem dX13_teethAt_172 : decode cX13_teethAt 172 = .ok (.aload_n 0, 1) := by decide +kernel
theorem dX13_teethAt_173 : decode cX13_teethAt 173 = .ok (.getfield 220, 3) := by decide +kernel
theorem dX13_teethAt_176 : decode cX13_teethAt 176 = .ok (.iload 9, 2) := by decide +kernel
theorem dX13_teethAt_178 : decode cX13_teethAt 178 = .ok (.iload_n 3, 1) := by decide +kernel
theorem dX13_teethAt_179 : decode cX13_teethAt 179 = .ok (.iastore, 1) := by decide +kernel
theorem dX13_teethAt_180 : decode cX13_teethAt 180 = .ok (.aload_n 0, 1) := by decide +kernel
theorem dX13_teethAt_181 : decode cX13_teethAt 181 = .ok (.getfield 223, 3) := by decide +kernel
theorem dX13_teethAt_184 : decode cX13_teethAt 184 = .ok (.iload 9, 2) := by decide +kernel
theorem dX13_teethAt_186 : decode cX13_teethAt 186 = .ok (.iload 8, 2) := by decide +kernel
theorem dX13_teethAt_188 : decode cX13_teethAt 188 = .ok (.iastore, 1) := by decide +kernel
theorem dX13_teethAt_189 : decode cX13_teethAt 189 = .ok (.aload_n 0, 1) := by decide +kernel
theorem dX13_teethAt_190 : decode cX13_teethAt 190 = .ok (.getfield 226, 3) := by decide +kernel
theorem dX13_teethAt_193 : decode cX13_teethAt 193 = .ok (.iload 9, 2) := by decide +kernel
theorem dX13_teethAt_195 : decode cX13_teethAt 195 = .ok (.aload_n 0, 1) := by decide +kernel
theorem dX13_teethAt_196 : decode cX13_teethAt 196 = .ok (.getfield 392, 3) := by decide +kernel
theorem dX13_teethAt_199 : decode cX13_teethAt 199 = .ok (.iastore, 1) := by decide +kernel
theorem dX13_teethAt_200 : decode cX13_teethAt 200 = .ok (.iinc 8 1, 3) := by decide +kernel
theorem dX13_teethAt_203 : decode cX13_teethAt 203 = .ok (.goto (-197), 3) := by decide +kernel
theorem dX13_teethAt_206 : decode cX13_teethAt 206 = .ok (.iload 7, 2) := by decide +kernel
theorem dX13_teethAt_208 : decode cX13_teethAt 208 = .ok (.ireturn, 1) := by decide +kernel
set_option maxRecDepth 20000 in
theorem ggX13_teethAt_X13_at : GoodIn wsX13_teethAt wsX13_at := goodIn_r _ [18] rfl (by decide +kernel)
set_option maxRecDepth 20000 in
theorem gX13_teethAt_X13_at : GoodIn wsX13_teethAt (va_wsS RX13 378 yX13_at wsX13_at) := goodIn_app (goodIn_of _ (by decide +kernel)) ggX13_teethAt_X13_at
set_option maxRecDepth 20000 in
theorem ggX13_teethAt_X13_force : GoodIn wsX13_teethAt wsX13_force := goodIn_r _ [22, 23, 24, 9, 25, 7, 8, 10, 26, 27, 28, 17, 29, 30, 31, 32, 33, 34, 35, 36, 37, 38, 39, 40, 41, 42, 43, 44, 45, 46, 47, 48, 49, 50, 51, 52, 53, 54, 55, 56, 57, 58, 59, 60, 61, 62, 63, 64, 65, 66, 67, 68, 69, 70, 71, 72, 73, 74, 75, 76, 77, 78, 79, 80, 81, 82, 83, 84, 85, 86, 87, 88, 89, 90, 91, 92, 93, 94, 95, 96, 97, 98, 99, 100, 101, 102, 103, 104, 105, 106, 107, 108, 109] rfl (by decide +kernel)
set_option maxRecDepth 20000 in
theorem gX13_teethAt_X13_force : GoodIn wsX13_teethAt (wsV RX13 395 RX13 yX13_force wsX13_force) := goodIn_app (goodIn_of _ (by decide +kernel)) ggX13_teethAt_X13_force
set_option maxRecDepth 20000 in
theorem ggX13_teethAt_X13_sumOf : GoodIn wsX13_teethAt wsX13_sumOf := goodIn_r _ [29, 30, 31, 32, 33, 34, 35, 17, 36, 37, 38, 39, 40, 41, 42, 43, 44, 45, 46, 47, 48, 49, 50, 51, 52, 53, 54, 55, 56, 57, 58, 59, 60, 61, 62, 63, 64, 65, 66, 67, 68, 69, 70, 71, 72, 73, 74, 75, 76, 77, 78, 79, 80, 81, 82, 83, 84, 85, 86, 87, 88, 89, 90, 91, 92, 93, 94, 95, 96, 97, 98, 99, 100, 101, 102, 103, 104, 105, 106, 107, 108, 109] rfl (by decide +kernel)
set_option maxRecDepth 20000 in
theorem gX13_teethAt_X13_sumOf : GoodIn wsX13_teethAt (wsV RX13 144 RX13 yX13_sumOf wsX13_sumOf) := goodIn_app (goodIn_of _ (by decide +kernel)) ggX13_teethAt_X13_sumOf
set_option maxHeartbeats 4000000 in
set_option maxRecDepth 100000 in
theorem S_X13_teethAt (l : Launch) (D : va_G) (K : Nat → ClassId) (a : Nat → Nat) (G : gS) (p0 : Int32) (s0 : Int) (p1 : Int32) (s1 : Int) (p2 : Int32) (s2 : Int) (p3 : Int32) (s3 : Int) (p4 : Int32) (s4 : Int) (p5 : Int32) (s5 : Int) (e0 : p0.toInt = s0) (h0 : 0 ≤ s0 ∧ s0 ≤ 5) (e1 : p1.toInt = s1) (h1 : 0 ≤ s1 ∧ s1 ≤ 15) (e2 : p2.toInt = s2) (h2 : 0 ≤ s2 ∧ s2 ≤ 11) (e3 : p3.toInt = s3) (e4 : p4.toInt = s4) (e5 : p5.toInt = s5) (wf : yW3 G) (flb : (1 ≤ s3 - s4 * (s2 + 1) ∧ s3 - s4 * (s2 + 1) ≤ 5000 ∧ 0 ≤ s4 ∧ s4 ≤ 20)) (xb0 : (-9999 ≤ (G 0 35).toInt ∧ (G 0 35).toInt ≤ 9999)) (hI : yI G) (sz : Nat) : Ki l yX13_teethAt wsX13_teethAt 4 110 0 0 D [.ref (a 0), .int p0, .int p1, .int p2, .int p3, .int p4, .int p5] (yW K a G) (tK K) sz (fun (r : Int32) (G' : gS) => (yI G') ∧ (gu_un ycd [29, 1300, 1400, 1500, 1600, 1700, 1800, 2100] G G') ∧ ((-39996) ≤ r.toInt ∧ r.toInt ≤ 39996) ∧ ((∀ (Q S : gS) (C : Nat → List Int), yBq G Q C p2 (p3 - (p4 * (p2 + 1))) → pR (G 3 0).toInt S (yHr (G 14) s0) (G 0 28) (G 0 35) (G 0 36) (G 21 2) (G 21 3) (G 21 1) 0 → pR (G 3 0).toInt (psT Q C s1 p2 ((G 3 10).toInt).toNat S) (yHr (G' 14) s0) (G' 0 28) (G 0 35) (G 0 36) (G' 21 2) (G 21 3) (G 21 1) (Int32.ofInt r.toInt) ∧ (∀ A0 B0 C0 D0 : Nat → Int32, s5 ≠ -1 → yLf s0 (G 3 0).toInt S p5 A0 B0 C0 D0 (G 15) (G 16) (G 17) (G 18) → yLf s0 (G 3 0).toInt (psT Q C s1 p2 ((G 3 10).toInt).toNat S) p5 A0 B0 C0 D0 (G' 15) (G' 16) (G' 17) (G' 18)))) ∧ (((∀ q : Nat, q ≠ 2 → G' 21 q = G 21 q) ∧ (s5 = -1 → G' 15 = G 15 ∧ G' 16 = G 16 ∧ G' 17 = G 17 ∧ G' 18 = G 18))) ∧ (yOt s0 (G 3 0).toInt G G') ∧ ((-39996 ≤ r.toInt ∧ r.toInt ≤ 39996))) (fun (G' : gS) => (yW K a G')) (fun _ => (tK K)) := by
  unfold Ki
  refine g_ofW (cc := cX13_teethAt) (lv := [(0, .ref (a 0)), (1, .int p0), (2, .int p1), (3, .int p2), (4, .int p3), (5, .int p4), (6, .int p5)]) (by decide) rfl (Nat.le_of_ble_eq_true rfl) rfl ?_
  intro p e s m args below meth c A Q hA hQ F hr hnm
  have hts := F.2.2.2.2.1
  have w_0 : (Cond.fieldLink RX13 199 "QuietCutModel" "rule" "[I").before args s = true := hts _ (List.mem_of_getElem? (i := 1) rfl)
  have i_X13 : ∀ w ∈ u_ws RX13 TX13 73, w ∈ wsX13_teethAt := fun _ h => List.mem_cons_of_mem _ (List.mem_append_right _ h)
  have w_1 : (Cond.fieldLink RX13 202 "QuietCutModel" "teeth" "[I").before args s = true := hts _ (List.mem_of_getElem? (i := 2) rfl)
  have w_2 : (Cond.fieldLink RX13 392 "QuietCutModel" "x" "I").before args s = true := hts _ (List.mem_of_getElem? (i := 3) rfl)
  have w_3 : (Cond.fieldLink RX13 214 "QuietCutModel" "height" "[I").before args s = true := hts _ (List.mem_of_getElem? (i := 4) rfl)
  have w_4 : (Cond.fieldLink RX13 362 "QuietCutModel" "wear" "I").before args s = true := hts _ (List.mem_of_getElem? (i := 6) rfl)
  have w_5 : (Cond.methodLink RX13 152 Lib.Math.max.name).before args s = true := hts _ (List.mem_of_getElem? (i := 7) rfl)
  have w_6 : (Cond.static Lib.Math.max.name).before args s = true := hts _ (List.mem_of_getElem? (i := 8) rfl)
  have w_7 : (Cond.initialized "java/lang/Math").before args s = true := hts _ (List.mem_of_getElem? (i := 9) rfl)
  have w_8 : (Cond.code Lib.Math.max.name Lib.Math.max.code 2 (some .int)).before args s = true := hts _ (List.mem_of_getElem? (i := 10) rfl)
  have w_9 : (Cond.fieldLink RX13 217 "QuietCutModel" "leftPass" "[I").before args s = true := hts _ (List.mem_of_getElem? (i := 11) rfl)
  have w_10 : (Cond.fieldLink RX13 220 "QuietCutModel" "leftTurn" "[I").before args s = true := hts _ (List.mem_of_getElem? (i := 12) rfl)
  have w_11 : (Cond.fieldLink RX13 223 "QuietCutModel" "leftTooth" "[I").before args s = true := hts _ (List.mem_of_getElem? (i := 13) rfl)
  have w_12 : (Cond.fieldLink RX13 226 "QuietCutModel" "leftX" "[I").before args s = true := hts _ (List.mem_of_getElem? (i := 14) rfl)
  have w_13 : (Cond.fieldLink RX13 235 "QuietCutModel" "now" "[I").before args s = true := hts _ (List.mem_of_getElem? (i := 5) rfl)
  have rg3 : -2147483648 ≤ s3 ∧ s3 ≤ 2147483647 := e3 ▸ ti_rng p3
  have rg4 : -2147483648 ≤ s4 ∧ s4 ≤ 2147483647 := e4 ▸ ti_rng p4
  have rg5 : -2147483648 ≤ s5 ∧ s5 ≤ 2147483647 := e5 ▸ ti_rng p5
  have b1 : (4 : Int) ≤ (G 3 0).toInt ∧ (G 3 0).toInt ≤ 16 := hI 3 0
  have b2 : (1 : Int) ≤ (G 3 10).toInt ∧ (G 3 10).toInt ≤ 4 := hI 3 10
  have J_6 : ∀ (fuel : Nat) (x6_7 : Int32) (x6_8 : Int32) (Gj6 : gS), (2147483647 - x6_8.toInt).toNat < fuel → ((-39996) ≤ x6_7.toInt ∧ x6_7.toInt ≤ 39996) → (0 ≤ x6_8.toInt ∧ x6_8.toInt ≤ 4) → (yI Gj6) → (gu_un ycd [29, 1300, 1400, 1500, 1600, 1700, 1800, 2100] G Gj6) → (∀ (Q S : gS) (C : Nat → List Int), yBq G Q C p2 (p3 - (p4 * (p2 + 1))) → pR (G 3 0).toInt S (yHr (G 14) s0) (G 0 28) (G 0 35) (G 0 36) (G 21 2) (G 21 3) (G 21 1) 0 → pR (G 3 0).toInt (psT Q C s1 p2 (x6_8.toInt).toNat S) (yHr (Gj6 14) s0) (Gj6 0 28) (G 0 35) (G 0 36) (Gj6 21 2) (G 21 3) (G 21 1) x6_7 ∧ (∀ A0 B0 C0 D0 : Nat → Int32, s5 ≠ -1 → yLf s0 (G 3 0).toInt S p5 A0 B0 C0 D0 (G 15) (G 16) (G 17) (G 18) → yLf s0 (G 3 0).toInt (psT Q C s1 p2 (x6_8.toInt).toNat S) p5 A0 B0 C0 D0 (Gj6 15) (Gj6 16) (Gj6 17) (Gj6 18))) → (((∀ q : Nat, q ≠ 2 → Gj6 21 q = G 21 q) ∧ (s5 = -1 → Gj6 15 = G 15 ∧ Gj6 16 = G 16 ∧ Gj6 17 = G 17 ∧ Gj6 18 = G 18))) → (yOt s0 (G 3 0).toInt G Gj6) → ((x6_8.toInt ≤ (G 3 10).toInt)) → ((-9999 * x6_8.toInt ≤ x6_7.toInt ∧ x6_7.toInt ≤ 9999 * x6_8.toInt)) → gG p l e (gR 4 0 0 110) s m args below meth c D A 13 Q 0 0 (yW K a Gj6) (tK K) [(0, .ref (a 0)), (1, .int p0), (2, .int p1), (3, .int p2), (4, .int p3), (5, .int p4), (6, .int p5), (7, .int x6_7), (8, .int x6_8)] 6 [] := by
    intro fuel
    induction fuel with
    | zero => intro x6_7 x6_8 Gj6 hm; exact absurd hm (Nat.not_lt_zero _)
    | succ fuel_6 ih_6 =>
      intro x6_7 x6_8 Gj6 hm_6 h6_7 h6_8 jI6 jU6 yt nw ot kl fb
      refine g_iload F 8 dX13_teethAt_6 rfl ?_
      refine g_aload_n F 0 dX13_teethAt_8 rfl rfl ?_
      refine yg_0_10 F i_X13 w_0 dX13_teethAt_9 ?_
      refine g_bipush F 10 dX13_teethAt_12 (by decide) ?_
      refine u1_iald F 3 0 yc_3 rfl 10 rfl (by decide) (by decide) dX13_teethAt_14 (G 3 10) (jU6 3 10 (by decide)) ?_
      refine v_icmp_ge F 206 dX13_teethAt_15 (by decide) x6_8.toInt (G 3 10).toInt rfl rfl (fun c3 => ?_) (fun c3 => ?_)
      · refine g_iload F 7 dX13_teethAt_206 rfl ?_
        exact u_iret F hA hQ hr Gj6 (⟨jI6, (gu_un.tr gu_un.rf (gu_un.su jU6 rfl)), (by have h9 := ti_rng x6_7; omega), (fun Q S C hq hs => by have h9 := yt Q S C hq hs; rw [show x6_8.toInt = (G 3 10).toInt by omega] at h9; rw [Int32.ofInt_toInt]; exact h9), (nw), (ot), (by show (-39996 ≤ x6_7.toInt ∧ x6_7.toInt ≤ 39996); (first | omega | (simp only [Int32.reduceToInt, true_and, and_true, ne_eq, not_true_eq_false, false_and, or_false, false_or, true_or, or_true, false_implies] <;> omega)))⟩) rfl rfl dX13_teethAt_208
      · refine g_iload_n F 1 dX13_teethAt_18 rfl rfl ?_
        refine g_iload_n F 2 dX13_teethAt_19 rfl rfl ?_
        refine g_aload_n F 0 dX13_teethAt_20 rfl rfl ?_
        refine yg_0_12 F i_X13 w_1 dX13_teethAt_21 ?_
        refine g_iload F 8 dX13_teethAt_24 rfl ?_
        refine u1_iald F 5 0 yc_5 rfl x6_8.toInt rfl (by omega) (by omega) dX13_teethAt_26 ((G 5) (x6_8.toInt).toNat) (congrFun ((show Gj6 5 = G 5 from funext fun k_ => jU6 5 k_ (show (500 : Nat) ∉ ([29, 1300, 1400, 1500, 1600, 1700, 1800, 2100] : List Nat) by decide))) _) ?_
        have b4 : (0 : Int) ≤ ((G 5) (x6_8.toInt).toNat).toInt ∧ ((G 5) (x6_8.toInt).toNat).toInt ≤ 15 := hI 5 _
        refine u_iadd F dX13_teethAt_27 s1 ((G 5) (x6_8.toInt).toNat).toInt e1 rfl (by omega) (by omega) (fun y5 ey5 => ?_)
        refine g_aload_n F 0 dX13_teethAt_28 rfl rfl ?_
        refine yg_0_10 F i_X13 w_0 dX13_teethAt_29 ?_
        refine g_iconst F 0 dX13_teethAt_32 (by decide) ?_
        refine u1_iald F 3 0 yc_3 rfl 0 rfl (by decide) (by decide) dX13_teethAt_33 (G 3 0) (jU6 3 0 (by decide)) ?_
        refine u_irem F dX13_teethAt_34 (ti_ne0 rfl (by omega)) y5.toInt (G 3 0).toInt rfl rfl (by omega) (by omega) (fun y6 ey6 => ?_)
        refine u_call0 (k := 0) (n := 0) (As := [.int p0, .int y6]) (st := []) F (fun sz => S_X13_at_b5_b15 l D p0 s0 y6 y6.toInt e0 (by omega) rfl (by omega) sz) (va_cwS 2 hts gX13_teethAt_X13_at rfl rfl rfl (by decide +kernel) ⟨Nat.le_of_ble_eq_true rfl, Nat.le_of_ble_eq_true rfl⟩) rfl (Nat.le_of_ble_eq_true rfl) ⟨Nat.zero_le _, Nat.zero_le _⟩ dX13_teethAt_35 (fun r7 _ hw8 => ?_)
        have rg10 := hw8.1
        have rg11 := hw8.2
        clear hw8
        refine g_istore F [(9, .int r7), (0, .ref (a 0)), (1, .int p0), (2, .int p1), (3, .int p2), (4, .int p3), (5, .int p4), (6, .int p5), (7, .int x6_7), (8, .int x6_8)] dX13_teethAt_38 (by decide) rfl ?_
        refine g_iload F 5 dX13_teethAt_40 rfl ?_
        refine g_iload F 6 dX13_teethAt_42 rfl ?_
        refine g_iload_n F 4 dX13_teethAt_44 rfl rfl ?_
        refine g_iconst F 1 dX13_teethAt_45 (by decide) ?_
        refine g_iadd F dX13_teethAt_46 ?_
        refine g_imul F dX13_teethAt_47 ?_
        refine g_isub F dX13_teethAt_48 ?_
        refine g_aload_n F 1 dX13_teethAt_49 rfl rfl ?_
        refine yg_0_35 F i_X13 w_2 dX13_teethAt_50 (G 0 35) (jU6 0 35 (by decide)) ?_
        refine g_iadd F dX13_teethAt_53 ?_
        have tm1 : (p2 + 1).toInt = s2 + 1 := ti_add e2 rfl (by omega) (by omega)
        have tm2 := Int.mul_nonneg (show (0 : Int) ≤ s4 by omega) (show (0 : Int) ≤ s2 + 1 by omega)
        have tm3 : s4 * (s2 + 1) ≤ 20 * 12 := Int.mul_le_mul (by omega) (by omega) (by omega) (by omega)
        have tm4 : (p4 * (p2 + 1)).toInt = s4 * (s2 + 1) := ti_mul e4 tm1 (by omega) (by omega)
        have tm5 : (p3 - (p4 * (p2 + 1))).toInt = s3 - s4 * (s2 + 1) := ti_sub e3 tm4 (by omega) (by omega)
        have tm6 : (((p3 - (p4 * (p2 + 1))) + (G 0 35)) : Int32).toInt = _ + _ := ti_add tm5 rfl (by omega) (by omega)
        refine g_istore F [(10, .int ((p3 - (p4 * (p2 + 1))) + (G 0 35))), (9, .int r7), (0, .ref (a 0)), (1, .int p0), (2, .int p1), (3, .int p2), (4, .int p3), (5, .int p4), (6, .int p5), (7, .int x6_7), (8, .int x6_8)] dX13_teethAt_54 (by decide) rfl ?_
        refine g_aload_n F 2 dX13_teethAt_56 rfl rfl ?_
        refine yg_0_23 F i_X13 w_3 dX13_teethAt_57 ?_
        refine g_iload F 1 dX13_teethAt_60 rfl ?_
        refine u1_iald F 14 0 yc_14 rfl r7.toInt rfl (by omega) (by omega) dX13_teethAt_62 ((Gj6 14) ((16 * s0 + y6.toInt)).toNat) (by rw [show r7.toInt = (16 * s0 + y6.toInt) by omega] <;> rfl) ?_
        have b12 : ((-9998) : Int) ≤ ((Gj6 14) ((16 * s0 + y6.toInt)).toNat).toInt ∧ ((Gj6 14) ((16 * s0 + y6.toInt)).toNat).toInt ≤ 5000 := jI6 14 _
        refine g_iload F 0 dX13_teethAt_63 rfl ?_
        refine g_isub F dX13_teethAt_65 ?_
        have tc9 : ((((Gj6 14) ((16 * s0 + y6.toInt)).toNat) - ((p3 - (p4 * (p2 + 1))) + (G 0 35))) : Int32).toInt = _ - _ := ti_sub rfl rfl (by omega) (by omega)
        refine g_istore F [(11, .int (((Gj6 14) ((16 * s0 + y6.toInt)).toNat) - ((p3 - (p4 * (p2 + 1))) + (G 0 35)))), (10, .int ((p3 - (p4 * (p2 + 1))) + (G 0 35))), (9, .int r7), (0, .ref (a 0)), (1, .int p0), (2, .int p1), (3, .int p2), (4, .int p3), (5, .int p4), (6, .int p5), (7, .int x6_7), (8, .int x6_8)] dX13_teethAt_66 (by decide) rfl ?_
        refine g_iload F 0 dX13_teethAt_68 rfl ?_
        refine v_if_gt F 86 dX13_teethAt_70 (by decide) ((((Gj6 14) ((16 * s0 + y6.toInt)).toNat) - ((p3 - (p4 * (p2 + 1))) + (G 0 35))) : Int32).toInt rfl (fun c13 => ?_) (fun c13 => ?_)
        · refine g_iload F 10 dX13_teethAt_86 rfl ?_
          refine g_aload_n F 3 dX13_teethAt_88 rfl rfl ?_
          refine g_iload F 0 dX13_teethAt_89 rfl ?_
          refine g_aload_n F 3 dX13_teethAt_91 rfl rfl ?_
          refine yg_0_28 F i_X13 w_4 dX13_teethAt_92 (Gj6 0 28) (rfl) ?_
          have b14 := ti_rng (((Gj6 14) ((16 * s0 + y6.toInt)).toNat) - ((p3 - (p4 * (p2 + 1))) + (G 0 35)))
          have b15 : (0 : Int) ≤ (Gj6 0 28).toInt ∧ (Gj6 0 28).toInt ≤ 30000 := jI6 0 28
          refine u_callVi (k := 0) (n := 0) (b := a 0) (As := [.int (((Gj6 14) ((16 * s0 + y6.toInt)).toNat) - ((p3 - (p4 * (p2 + 1))) + (G 0 35))), .int (Gj6 0 28)]) (st := [.int x6_7]) F (fun sz => S_X13_force l D K a Gj6 (((Gj6 14) ((16 * s0 + y6.toInt)).toNat) - ((p3 - (p4 * (p2 + 1))) + (G 0 35))) ((((Gj6 14) ((16 * s0 + y6.toInt)).toNat) - ((p3 - (p4 * (p2 + 1))) + (G 0 35))) : Int32).toInt (Gj6 0 28) (Gj6 0 28).toInt rfl rfl (yW3.un wf (show gu_un ycd [29, 1300, 1400, 1500, 1600, 1700, 1800, 2100] G Gj6 from (gu_un.tr gu_un.rf (gu_un.su jU6 rfl))) rfl) jI6 sz) (cwV 2 hts gX13_teethAt_X13_force rfl rfl rfl (by decide +kernel) ⟨Nat.le_of_ble_eq_true rfl, Nat.le_of_ble_eq_true rfl⟩) rfl 0 yc_0 rfl (Nat.le_of_ble_eq_true rfl) ⟨Nat.zero_le _, Nat.zero_le _⟩ dX13_teethAt_95 (fun r16 G18 hw17 => ?_)
          have hI19 : yI G18 := hw17.1
          have hU20 : gu_un ycd [1300] Gj6 G18 := hw17.2.1
          have hp21 := hw17.2.2
          have q22 : (gcOK (mL 0 Gj6) → Int32.ofInt r16.toInt = psC (-9999) 9999 (eV (((Gj6 14) ((16 * s0 + y6.toInt)).toNat) - ((p3 - (p4 * (p2 + 1))) + (G 0 35))) (Gj6 0 28) (mL 0 Gj6))) := hp21.2
          have rg23 := hp21.1
          clear hp21 hw17
          refine g_iadd F dX13_teethAt_98 ?_
          have fs : ((x6_7 + r16) : Int32).toInt = _ + _ := ti_add rfl rfl (by omega) (by omega)
          refine g_istore F [(7, .int (x6_7 + r16)), (11, .int (((Gj6 14) ((16 * s0 + y6.toInt)).toNat) - ((p3 - (p4 * (p2 + 1))) + (G 0 35)))), (10, .int ((p3 - (p4 * (p2 + 1))) + (G 0 35))), (9, .int r7), (0, .ref (a 0)), (1, .int p0), (2, .int p1), (3, .int p2), (4, .int p3), (5, .int p4), (6, .int p5), (8, .int x6_8)] dX13_teethAt_99 (by decide) rfl ?_
          refine g_iconst F 0 dX13_teethAt_101 (by decide) ?_
          refine g_aload_n F 4 dX13_teethAt_102 rfl rfl ?_
          refine g_iconst F 2 dX13_teethAt_103 (by decide) ?_
          refine g_iload F 1 dX13_teethAt_104 rfl ?_
          refine g_iconst F 0 dX13_teethAt_106 (by decide) ?_
          refine u_callVi (k := 0) (n := 0) (b := a 0) (As := [.int 2, .int (((Gj6 14) ((16 * s0 + y6.toInt)).toNat) - ((p3 - (p4 * (p2 + 1))) + (G 0 35))), .int 0]) (st := [.int 0]) F (fun sz => S_X13_sumOf l D K a G18 2 2 (((Gj6 14) ((16 * s0 + y6.toInt)).toNat) - ((p3 - (p4 * (p2 + 1))) + (G 0 35))) ((((Gj6 14) ((16 * s0 + y6.toInt)).toNat) - ((p3 - (p4 * (p2 + 1))) + (G 0 35))) : Int32).toInt 0 0 rfl (by decide) rfl rfl (yW3.un wf (show gu_un ycd [29, 1300, 1400, 1500, 1600, 1700, 1800, 2100] G G18 from (gu_un.tr (gu_un.tr gu_un.rf (gu_un.su jU6 rfl)) (gu_un.su hU20 rfl))) rfl) hI19 sz) (cwV 3 hts gX13_teethAt_X13_sumOf rfl rfl rfl (by decide +kernel) ⟨Nat.le_of_ble_eq_true rfl, Nat.le_of_ble_eq_true rfl⟩) rfl 0 yc_0 rfl (Nat.le_of_ble_eq_true rfl) ⟨Nat.zero_le _, Nat.zero_le _⟩ dX13_teethAt_107 (fun r24 G26 hw25 => ?_)
          have hI27 : yI G26 := hw25.1
          have hU28 : gu_un ycd [1300] G18 G26 := hw25.2.1
          have hp29 := hw25.2.2
          have q30 : (gcOK (mL (2 : Int) G18) → r24.toInt = (eV (((Gj6 14) ((16 * s0 + y6.toInt)).toNat) - ((p3 - (p4 * (p2 + 1))) + (G 0 35))) 0 (mL (2 : Int) G18)).toInt) := hp29
          clear hp29 hw25
          refine u_mmax F w_5 w_6 w_7 w_8 (Nat.le_of_ble_eq_true rfl) (Nat.le_of_ble_eq_true rfl) (Nat.le_of_ble_eq_true rfl) (Nat.le_of_ble_eq_true rfl) dX13_teethAt_110 0 r24.toInt rfl rfl (fun y31 ey31 => ?_)
          refine g_istore F [(12, .int y31), (7, .int (x6_7 + r16)), (11, .int (((Gj6 14) ((16 * s0 + y6.toInt)).toNat) - ((p3 - (p4 * (p2 + 1))) + (G 0 35)))), (10, .int ((p3 - (p4 * (p2 + 1))) + (G 0 35))), (9, .int r7), (0, .ref (a 0)), (1, .int p0), (2, .int p1), (3, .int p2), (4, .int p3), (5, .int p4), (6, .int p5), (8, .int x6_8)] dX13_teethAt_113 (by decide) rfl ?_
          refine g_aload_n F 5 dX13_teethAt_115 rfl rfl ?_
          refine g_iload F 0 dX13_teethAt_116 rfl ?_
          refine g_sipush F 30000 dX13_teethAt_118 (by decide) ?_
          refine g_aload_n F 5 dX13_teethAt_121 rfl rfl ?_
          refine yg_0_28 F i_X13 w_4 dX13_teethAt_122 (Gj6 0 28) ((hU28 0 28 (by decide)).trans (hU20 0 28 (by decide))) ?_
          refine u_isub F dX13_teethAt_125 30000 (Gj6 0 28).toInt rfl rfl (by omega) (by omega) (fun y32 ey32 => ?_)
          have b33 := ti_rng y31
          refine v_icmp_le F 135 dX13_teethAt_126 (by decide) y31.toInt y32.toInt rfl rfl (fun c34 => ?_) (fun c34 => ?_)
          · refine g_aload_n F 5 dX13_teethAt_135 rfl rfl ?_
            refine yg_0_28 F i_X13 w_4 dX13_teethAt_136 (Gj6 0 28) ((hU28 0 28 (by decide)).trans (hU20 0 28 (by decide))) ?_
            refine g_iload F 0 dX13_teethAt_139 rfl ?_
            refine u_iadd F dX13_teethAt_141 (Gj6 0 28).toInt y31.toInt rfl rfl (by omega) (by omega) (fun y35 ey35 => ?_)
            refine yp_0_28 F i_X13 w_4 dX13_teethAt_142 ?_
            refine g_aload_n F 5 dX13_teethAt_145 rfl rfl ?_
            refine yg_0_23 F i_X13 w_3 dX13_teethAt_146 ?_
            refine g_iload F 4 dX13_teethAt_149 rfl ?_
            refine g_iload F 3 dX13_teethAt_151 rfl ?_
            refine u_iast F 14 0 yc_14 rfl r7.toInt rfl (by omega) (by omega) (yW K a (gu_up (gu_up G26 0 28 y35) 14 (r7.toInt).toNat ((p3 - (p4 * (p2 + 1))) + (G 0 35)))) (ys_14 _) dX13_teethAt_153 ?_
            refine g_iload F 11 dX13_teethAt_154 rfl ?_
            refine g_iconst F (-1) dX13_teethAt_156 (by decide) ?_
            refine v_icmp_ne F 163 dX13_teethAt_157 (by decide) s5 (-1) e5 rfl (fun c36 => ?_) (fun c36 => ?_)
            · refine g_aload_n F 5 dX13_teethAt_163 rfl rfl ?_
              refine yg_0_24 F i_X13 w_9 dX13_teethAt_164 ?_
              refine g_iload F 4 dX13_teethAt_167 rfl ?_
              refine g_iload F 11 dX13_teethAt_169 rfl ?_
              refine u_iast F 15 0 yc_15 rfl r7.toInt rfl (by omega) (by omega) (yW K a (gu_up (gu_up (gu_up G26 0 28 y35) 14 (r7.toInt).toNat ((p3 - (p4 * (p2 + 1))) + (G 0 35))) 15 (r7.toInt).toNat p5)) (ys_15 _) dX13_teethAt_171 ?_
              refine g_aload_n F 5 dX13_teethAt_172 rfl rfl ?_
              refine yg_0_25 F i_X13 w_10 dX13_teethAt_173 ?_
              refine g_iload F 4 dX13_teethAt_176 rfl ?_
              refine g_iload_n F 8 dX13_teethAt_178 rfl rfl ?_
              refine u_iast F 16 0 yc_16 rfl r7.toInt rfl (by omega) (by omega) (yW K a (gu_up (gu_up (gu_up (gu_up G26 0 28 y35) 14 (r7.toInt).toNat ((p3 - (p4 * (p2 + 1))) + (G 0 35))) 15 (r7.toInt).toNat p5) 16 (r7.toInt).toNat p2)) (ys_16 _) dX13_teethAt_179 ?_
              refine g_aload_n F 5 dX13_teethAt_180 rfl rfl ?_
              refine yg_0_26 F i_X13 w_11 dX13_teethAt_181 ?_
              refine g_iload F 4 dX13_teethAt_184 rfl ?_
              refine g_iload F 12 dX13_teethAt_186 rfl ?_
              refine u_iast F 17 0 yc_17 rfl r7.toInt rfl (by omega) (by omega) (yW K a (gu_up (gu_up (gu_up (gu_up (gu_up G26 0 28 y35) 14 (r7.toInt).toNat ((p3 - (p4 * (p2 + 1))) + (G 0 35))) 15 (r7.toInt).toNat p5) 16 (r7.toInt).toNat p2) 17 (r7.toInt).toNat x6_8)) (ys_17 _) dX13_teethAt_188 ?_
              refine g_aload_n F 5 dX13_teethAt_189 rfl rfl ?_
              refine yg_0_27 F i_X13 w_12 dX13_teethAt_190 ?_
              refine g_iload F 4 dX13_teethAt_193 rfl ?_
              refine g_aload_n F 5 dX13_teethAt_195 rfl rfl ?_
              refine yg_0_35 F i_X13 w_2 dX13_teethAt_196 (G 0 35) ((hU28 0 35 (by decide)).trans ((hU20 0 35 (by decide)).trans (jU6 0 35 (by decide)))) ?_
              refine u_iast F 18 0 yc_18 rfl r7.toInt rfl (by omega) (by omega) (yW K a (gu_up (gu_up (gu_up (gu_up (gu_up (gu_up G26 0 28 y35) 14 (r7.toInt).toNat ((p3 - (p4 * (p2 + 1))) + (G 0 35))) 15 (r7.toInt).toNat p5) 16 (r7.toInt).toNat p2) 17 (r7.toInt).toNat x6_8) 18 (r7.toInt).toNat (G 0 35))) (ys_18 _) dX13_teethAt_199 ?_
              refine u_iinc F (fun v_ => [(8, .int v_), (12, .int y31), (7, .int (x6_7 + r16)), (11, .int (((Gj6 14) ((16 * s0 + y6.toInt)).toNat) - ((p3 - (p4 * (p2 + 1))) + (G 0 35)))), (10, .int ((p3 - (p4 * (p2 + 1))) + (G 0 35))), (9, .int r7), (0, .ref (a 0)), (1, .int p0), (2, .int p1), (3, .int p2), (4, .int p3), (5, .int p4), (6, .int p5)]) dX13_teethAt_200 (j := 12) rfl x6_8.toInt 1 rfl rfl (by omega) (by omega) (by decide) (fun _ => rfl) (fun y37 ey37 => ?_)
              refine g_goto F 6 dX13_teethAt_203 (by decide) ?_
              refine g_locals [(0, .ref (a 0)), (1, .int p0), (2, .int p1), (3, .int p2), (4, .int p3), (5, .int p4), (6, .int p5), (7, .int (x6_7 + r16)), (8, .int y37)] [6, 7, 8, 9, 10, 11, 12, 2, 0] rfl ?_
              exact ih_6 (x6_7 + r16) y37 (gu_up (gu_up (gu_up (gu_up (gu_up (gu_up G26 0 28 y35) 14 (r7.toInt).toNat ((p3 - (p4 * (p2 + 1))) + (G 0 35))) 15 (r7.toInt).toNat p5) 16 (r7.toInt).toNat p2) 17 (r7.toInt).toNat x6_8) 18 (r7.toInt).toNat (G 0 35)) (by omega) (by have h9 := ti_rng (x6_7 + r16); omega) (by have h9 := ti_rng y37; omega) (gu_I.up (j := 18) (k := (r7.toInt).toNat) (v := (G 0 35)) (gu_I.up (j := 17) (k := (r7.toInt).toNat) (v := x6_8) (gu_I.up (j := 16) (k := (r7.toInt).toNat) (v := p2) (gu_I.up (j := 15) (k := (r7.toInt).toNat) (v := p5) (gu_I.up (j := 14) (k := (r7.toInt).toNat) (v := ((p3 - (p4 * (p2 + 1))) + (G 0 35))) (gu_I.up (j := 0) (k := 28) (v := y35) hI27 (show (0 : Int) ≤ Int32.toInt y35 by omega) (show Int32.toInt y35 ≤ 30000 by omega)) (show ((-9998) : Int) ≤ Int32.toInt ((p3 - (p4 * (p2 + 1))) + (G 0 35)) by omega) (show Int32.toInt ((p3 - (p4 * (p2 + 1))) + (G 0 35)) ≤ 5000 by omega)) (ti_rng _).1 (ti_rng _).2) (ti_rng _).1 (ti_rng _).2) (ti_rng _).1 (ti_rng _).2) (ti_rng _).1 (ti_rng _).2) (gu_un.up (j := 18) (k := (r7.toInt).toNat) (v := (G 0 35)) (gu_un.up (j := 17) (k := (r7.toInt).toNat) (v := x6_8) (gu_un.up (j := 16) (k := (r7.toInt).toNat) (v := p2) (gu_un.up (j := 15) (k := (r7.toInt).toNat) (v := p5) (gu_un.up (j := 14) (k := (r7.toInt).toNat) (v := ((p3 - (p4 * (p2 + 1))) + (G 0 35))) (gu_un.up (j := 0) (k := 28) (v := y35) (gu_un.tr (gu_un.tr (gu_un.tr gu_un.rf (gu_un.su jU6 rfl)) (gu_un.su hU20 rfl)) (gu_un.su hU28 rfl)) (show (29 : Nat) ∈ ([29, 1300, 1400, 1500, 1600, 1700, 1800, 2100] : List Nat) by decide)) (show (1400 : Nat) ∈ ([29, 1300, 1400, 1500, 1600, 1700, 1800, 2100] : List Nat) by decide)) (show (1500 : Nat) ∈ ([29, 1300, 1400, 1500, 1600, 1700, 1800, 2100] : List Nat) by decide)) (show (1600 : Nat) ∈ ([29, 1300, 1400, 1500, 1600, 1700, 1800, 2100] : List Nat) by decide)) (show (1700 : Nat) ∈ ([29, 1300, 1400, 1500, 1600, 1700, 1800, 2100] : List Nat) by decide)) (show (1800 : Nat) ∈ ([29, 1300, 1400, 1500, 1600, 1700, 1800, 2100] : List Nat) by decide)) (fun Q S C hq hs => by obtain ⟨h1, h2⟩ := yt Q S C hq hs; have hp := psP_of (Q := Q) (i := s1) (k := (x6_8.toInt).toNat) (t := G 5 (x6_8.toInt).toNat) (s := G 3 0) ey6.2.2.2 (by omega) rfl (hq.2.1 _ (by omega)) hq.1; have hcut : ((p3 - (p4 * (p2 + 1))) + (G 0 35)) = psF Q p2 + (G 0 35) := (by rw [hq.2.2.1]); have hc := pR.chp (chip := (((Gj6 14) ((16 * s0 + y6.toInt)).toNat) - ((p3 - (p4 * (p2 + 1))) + (G 0 35)))) h1 hp (by omega) hcut (by unfold yHr; rw [show 16 * s0 + (((y6.toInt).toNat : Nat) : Int) = 16 * s0 + y6.toInt by omega]); have e0_ := (mLun (show gu_un ycd [29, 1300, 1400, 1500, 1600, 1700, 1800, 2100] G Gj6 from (gu_un.tr gu_un.rf (gu_un.su jU6 rfl))) rfl : mL 0 Gj6 = mL 0 G); have e2_ := (mLun (show gu_un ycd [29, 1300, 1400, 1500, 1600, 1700, 1800, 2100] G G18 from (gu_un.tr (gu_un.tr gu_un.rf (gu_un.su jU6 rfl)) (gu_un.su hU20 rfl))) rfl : mL 2 G18 = mL 2 G); exact ⟨pR.bite h1 hc (by omega) hp hcut (yHr_up (by omega) (show r7.toInt = 16 * s0 + (((y6.toInt).toNat : Nat) : Int) by omega) (show (gu_up (gu_up (gu_up (gu_up (gu_up (gu_up G26 0 28 y35) 14 (r7.toInt).toNat ((p3 - (p4 * (p2 + 1))) + (G 0 35))) 15 (r7.toInt).toNat p5) 16 (r7.toInt).toNat p2) 17 (r7.toInt).toNat x6_8) 18 (r7.toInt).toNat (G 0 35)) 14 = (upd (Gj6 14) (r7.toInt).toNat ((p3 - (p4 * (p2 + 1))) + (G 0 35))) from (congrArg (fun f_ => upd f_ (r7.toInt).toNat ((p3 - (p4 * (p2 + 1))) + (G 0 35))) ((show G26 14 = G18 14 from funext fun k_ => hU28 14 k_ (by simp [ycd])).trans (show G18 14 = (Gj6 14) from ((show G18 14 = Gj6 14 from funext fun k_ => hU20 14 k_ (by simp [ycd])).trans (show Gj6 14 = (Gj6 14) from rfl))))))) (by rw [hq.2.2.2.1, ← e0_]; have hf := q22 (by rw [e0_, ← hq.2.2.2.1]; exact hq.2.2.2.2.2.1); rw [Int32.ofInt_toInt] at hf; exact congrArg (x6_7 + ·) hf) (by rw [hq.2.2.2.2.1, ← e2_]; have hv := q30 (by rw [e2_, ← hq.2.2.2.2.1]; exact hq.2.2.2.2.2.2); exact psW_of (y := y35) (by rw [← hv]; (first | omega | (simp only [Int32.reduceToInt, true_and, and_true, ne_eq, not_true_eq_false, false_and, or_false, false_or, true_or, or_true, false_implies] <;> omega)))) (by omega) (show (gu_up (gu_up (gu_up (gu_up (gu_up (gu_up G26 0 28 y35) 14 (r7.toInt).toNat ((p3 - (p4 * (p2 + 1))) + (G 0 35))) 15 (r7.toInt).toNat p5) 16 (r7.toInt).toNat p2) 17 (r7.toInt).toNat x6_8) 18 (r7.toInt).toNat (G 0 35)) 21 2 = Gj6 21 2 from (show gu_un ycd [29, 1300, 1400, 1500, 1600, 1700, 1800] Gj6 (gu_up (gu_up (gu_up (gu_up (gu_up (gu_up G26 0 28 y35) 14 (r7.toInt).toNat ((p3 - (p4 * (p2 + 1))) + (G 0 35))) 15 (r7.toInt).toNat p5) 16 (r7.toInt).toNat p2) 17 (r7.toInt).toNat x6_8) 18 (r7.toInt).toNat (G 0 35)) from (gu_un.up (j := 18) (k := (r7.toInt).toNat) (v := (G 0 35)) (gu_un.up (j := 17) (k := (r7.toInt).toNat) (v := x6_8) (gu_un.up (j := 16) (k := (r7.toInt).toNat) (v := p2) (gu_un.up (j := 15) (k := (r7.toInt).toNat) (v := p5) (gu_un.up (j := 14) (k := (r7.toInt).toNat) (v := ((p3 - (p4 * (p2 + 1))) + (G 0 35))) (gu_un.up (j := 0) (k := 28) (v := y35) (gu_un.tr (gu_un.tr gu_un.rf (gu_un.su hU20 rfl)) (gu_un.su hU28 rfl)) (show (29 : Nat) ∈ ([29, 1300, 1400, 1500, 1600, 1700, 1800] : List Nat) by decide)) (show (1400 : Nat) ∈ ([29, 1300, 1400, 1500, 1600, 1700, 1800] : List Nat) by decide)) (show (1500 : Nat) ∈ ([29, 1300, 1400, 1500, 1600, 1700, 1800] : List Nat) by decide)) (show (1600 : Nat) ∈ ([29, 1300, 1400, 1500, 1600, 1700, 1800] : List Nat) by decide)) (show (1700 : Nat) ∈ ([29, 1300, 1400, 1500, 1600, 1700, 1800] : List Nat) by decide)) (show (1800 : Nat) ∈ ([29, 1300, 1400, 1500, 1600, 1700, 1800] : List Nat) by decide))) 21 2 (by decide)), fun A0 B0 C0 D0 h8 h9 => yLf.bite (h2 A0 B0 C0 D0 h8 h9) h1.2.2.1 hc (by omega) hp (by omega) (fun h7 => by have h6 := congrArg Int32.toInt h7; rw [e2] at h6; have h5 : (-1 : Int32).toInt = -1 := rfl; omega) (show r7.toInt = 16 * s0 + (((y6.toInt).toNat : Nat) : Int) by omega) (show (gu_up (gu_up (gu_up (gu_up (gu_up (gu_up G26 0 28 y35) 14 (r7.toInt).toNat ((p3 - (p4 * (p2 + 1))) + (G 0 35))) 15 (r7.toInt).toNat p5) 16 (r7.toInt).toNat p2) 17 (r7.toInt).toNat x6_8) 18 (r7.toInt).toNat (G 0 35)) 15 = (upd (Gj6 15) (r7.toInt).toNat p5) from (congrArg (fun f_ => upd f_ (r7.toInt).toNat p5) ((show G26 15 = G18 15 from funext fun k_ => hU28 15 k_ (by simp [ycd])).trans (show G18 15 = (Gj6 15) from ((show G18 15 = Gj6 15 from funext fun k_ => hU20 15 k_ (by simp [ycd])).trans (show Gj6 15 = (Gj6 15) from rfl)))))) (show (gu_up (gu_up (gu_up (gu_up (gu_up (gu_up G26 0 28 y35) 14 (r7.toInt).toNat ((p3 - (p4 * (p2 + 1))) + (G 0 35))) 15 (r7.toInt).toNat p5) 16 (r7.toInt).toNat p2) 17 (r7.toInt).toNat x6_8) 18 (r7.toInt).toNat (G 0 35)) 16 = (upd (Gj6 16) (r7.toInt).toNat p2) from (congrArg (fun f_ => upd f_ (r7.toInt).toNat p2) ((show G26 16 = G18 16 from funext fun k_ => hU28 16 k_ (by simp [ycd])).trans (show G18 16 = (Gj6 16) from ((show G18 16 = Gj6 16 from funext fun k_ => hU20 16 k_ (by simp [ycd])).trans (show Gj6 16 = (Gj6 16) from rfl)))))) (by rw [i32_nat (by omega)]; exact (show (gu_up (gu_up (gu_up (gu_up (gu_up (gu_up G26 0 28 y35) 14 (r7.toInt).toNat ((p3 - (p4 * (p2 + 1))) + (G 0 35))) 15 (r7.toInt).toNat p5) 16 (r7.toInt).toNat p2) 17 (r7.toInt).toNat x6_8) 18 (r7.toInt).toNat (G 0 35)) 17 = (upd (Gj6 17) (r7.toInt).toNat x6_8) from (congrArg (fun f_ => upd f_ (r7.toInt).toNat x6_8) ((show G26 17 = G18 17 from funext fun k_ => hU28 17 k_ (by simp [ycd])).trans (show G18 17 = (Gj6 17) from ((show G18 17 = Gj6 17 from funext fun k_ => hU20 17 k_ (by simp [ycd])).trans (show Gj6 17 = (Gj6 17) from rfl))))))) (show (gu_up (gu_up (gu_up (gu_up (gu_up (gu_up G26 0 28 y35) 14 (r7.toInt).toNat ((p3 - (p4 * (p2 + 1))) + (G 0 35))) 15 (r7.toInt).toNat p5) 16 (r7.toInt).toNat p2) 17 (r7.toInt).toNat x6_8) 18 (r7.toInt).toNat (G 0 35)) 18 = (upd (Gj6 18) (r7.toInt).toNat (G 0 35)) from (congrArg (fun f_ => upd f_ (r7.toInt).toNat (G 0 35)) ((show G26 18 = G18 18 from funext fun k_ => hU28 18 k_ (by simp [ycd])).trans (show G18 18 = (Gj6 18) from ((show G18 18 = Gj6 18 from funext fun k_ => hU20 18 k_ (by simp [ycd])).trans (show Gj6 18 = (Gj6 18) from rfl)))))) (by omega)⟩) (⟨fun q hq => ((show gu_un ycd [29, 1300, 1400, 1500, 1600, 1700, 1800] Gj6 (gu_up (gu_up (gu_up (gu_up (gu_up (gu_up G26 0 28 y35) 14 (r7.toInt).toNat ((p3 - (p4 * (p2 + 1))) + (G 0 35))) 15 (r7.toInt).toNat p5) 16 (r7.toInt).toNat p2) 17 (r7.toInt).toNat x6_8) 18 (r7.toInt).toNat (G 0 35)) from (gu_un.up (j := 18) (k := (r7.toInt).toNat) (v := (G 0 35)) (gu_un.up (j := 17) (k := (r7.toInt).toNat) (v := x6_8) (gu_un.up (j := 16) (k := (r7.toInt).toNat) (v := p2) (gu_un.up (j := 15) (k := (r7.toInt).toNat) (v := p5) (gu_un.up (j := 14) (k := (r7.toInt).toNat) (v := ((p3 - (p4 * (p2 + 1))) + (G 0 35))) (gu_un.up (j := 0) (k := 28) (v := y35) (gu_un.tr (gu_un.tr gu_un.rf (gu_un.su hU20 rfl)) (gu_un.su hU28 rfl)) (show (29 : Nat) ∈ ([29, 1300, 1400, 1500, 1600, 1700, 1800] : List Nat) by decide)) (show (1400 : Nat) ∈ ([29, 1300, 1400, 1500, 1600, 1700, 1800] : List Nat) by decide)) (show (1500 : Nat) ∈ ([29, 1300, 1400, 1500, 1600, 1700, 1800] : List Nat) by decide)) (show (1600 : Nat) ∈ ([29, 1300, 1400, 1500, 1600, 1700, 1800] : List Nat) by decide)) (show (1700 : Nat) ∈ ([29, 1300, 1400, 1500, 1600, 1700, 1800] : List Nat) by decide)) (show (1800 : Nat) ∈ ([29, 1300, 1400, 1500, 1600, 1700, 1800] : List Nat) by decide))) 21 q (by simp [ycd])).trans (nw.1 q hq), fun h9 => absurd h9 (by omega)⟩) (yOt.bite (pl := y6.toInt) (p := r7.toInt) ot (by omega) (by omega) (by omega) (by omega) (show (gu_up (gu_up (gu_up (gu_up (gu_up (gu_up G26 0 28 y35) 14 (r7.toInt).toNat ((p3 - (p4 * (p2 + 1))) + (G 0 35))) 15 (r7.toInt).toNat p5) 16 (r7.toInt).toNat p2) 17 (r7.toInt).toNat x6_8) 18 (r7.toInt).toNat (G 0 35)) 14 = (upd (Gj6 14) (r7.toInt).toNat ((p3 - (p4 * (p2 + 1))) + (G 0 35))) from (congrArg (fun f_ => upd f_ (r7.toInt).toNat ((p3 - (p4 * (p2 + 1))) + (G 0 35))) ((show G26 14 = G18 14 from funext fun k_ => hU28 14 k_ (by simp [ycd])).trans (show G18 14 = (Gj6 14) from ((show G18 14 = Gj6 14 from funext fun k_ => hU20 14 k_ (by simp [ycd])).trans (show Gj6 14 = (Gj6 14) from rfl)))))) (Or.inr (show (gu_up (gu_up (gu_up (gu_up (gu_up (gu_up G26 0 28 y35) 14 (r7.toInt).toNat ((p3 - (p4 * (p2 + 1))) + (G 0 35))) 15 (r7.toInt).toNat p5) 16 (r7.toInt).toNat p2) 17 (r7.toInt).toNat x6_8) 18 (r7.toInt).toNat (G 0 35)) 15 = (upd (Gj6 15) (r7.toInt).toNat p5) from (congrArg (fun f_ => upd f_ (r7.toInt).toNat p5) ((show G26 15 = G18 15 from funext fun k_ => hU28 15 k_ (by simp [ycd])).trans (show G18 15 = (Gj6 15) from ((show G18 15 = Gj6 15 from funext fun k_ => hU20 15 k_ (by simp [ycd])).trans (show Gj6 15 = (Gj6 15) from rfl))))))) (Or.inr (show (gu_up (gu_up (gu_up (gu_up (gu_up (gu_up G26 0 28 y35) 14 (r7.toInt).toNat ((p3 - (p4 * (p2 + 1))) + (G 0 35))) 15 (r7.toInt).toNat p5) 16 (r7.toInt).toNat p2) 17 (r7.toInt).toNat x6_8) 18 (r7.toInt).toNat (G 0 35)) 16 = (upd (Gj6 16) (r7.toInt).toNat p2) from (congrArg (fun f_ => upd f_ (r7.toInt).toNat p2) ((show G26 16 = G18 16 from funext fun k_ => hU28 16 k_ (by simp [ycd])).trans (show G18 16 = (Gj6 16) from ((show G18 16 = Gj6 16 from funext fun k_ => hU20 16 k_ (by simp [ycd])).trans (show Gj6 16 = (Gj6 16) from rfl))))))) (Or.inr (show (gu_up (gu_up (gu_up (gu_up (gu_up (gu_up G26 0 28 y35) 14 (r7.toInt).toNat ((p3 - (p4 * (p2 + 1))) + (G 0 35))) 15 (r7.toInt).toNat p5) 16 (r7.toInt).toNat p2) 17 (r7.toInt).toNat x6_8) 18 (r7.toInt).toNat (G 0 35)) 17 = (upd (Gj6 17) (r7.toInt).toNat x6_8) from (congrArg (fun f_ => upd f_ (r7.toInt).toNat x6_8) ((show G26 17 = G18 17 from funext fun k_ => hU28 17 k_ (by simp [ycd])).trans (show G18 17 = (Gj6 17) from ((show G18 17 = Gj6 17 from funext fun k_ => hU20 17 k_ (by simp [ycd])).trans (show Gj6 17 = (Gj6 17) from rfl))))))) (Or.inr (show (gu_up (gu_up (gu_up (gu_up (gu_up (gu_up G26 0 28 y35) 14 (r7.toInt).toNat ((p3 - (p4 * (p2 + 1))) + (G 0 35))) 15 (r7.toInt).toNat p5) 16 (r7.toInt).toNat p2) 17 (r7.toInt).toNat x6_8) 18 (r7.toInt).toNat (G 0 35)) 18 = (upd (Gj6 18) (r7.toInt).toNat (G 0 35)) from (congrArg (fun f_ => upd f_ (r7.toInt).toNat (G 0 35)) ((show G26 18 = G18 18 from funext fun k_ => hU28 18 k_ (by simp [ycd])).trans (show G18 18 = (Gj6 18) from ((show G18 18 = Gj6 18 from funext fun k_ => hU20 18 k_ (by simp [ycd])).trans (show Gj6 18 = (Gj6 18) from rfl)))))))) (by have e9_3_10 : (gu_up (gu_up (gu_up (gu_up (gu_up (gu_up G26 0 28 y35) 14 (r7.toInt).toNat ((p3 - (p4 * (p2 + 1))) + (G 0 35))) 15 (r7.toInt).toNat p5) 16 (r7.toInt).toNat p2) 17 (r7.toInt).toNat x6_8) 18 (r7.toInt).toNat (G 0 35)) 3 10 = (G 3 10) := (hU28 3 10 (by decide)).trans ((hU20 3 10 (by decide)).trans (jU6 3 10 (by decide))); (try simp only [e9_3_10, true_and, and_true]) <;> (first | omega | (simp only [Int32.reduceToInt, true_and, and_true, ne_eq, not_true_eq_false, false_and, or_false, false_or, true_or, or_true, false_implies] <;> omega))) (by (first | omega | (simp only [Int32.reduceToInt, true_and, and_true, ne_eq, not_true_eq_false, false_and, or_false, false_or, true_or, or_true, false_implies] <;> omega)))
            · refine g_goto F 200 dX13_teethAt_160 (by decide) ?_
              refine u_iinc F (fun v_ => [(8, .int v_), (12, .int y31), (7, .int (x6_7 + r16)), (11, .int (((Gj6 14) ((16 * s0 + y6.toInt)).toNat) - ((p3 - (p4 * (p2 + 1))) + (G 0 35)))), (10, .int ((p3 - (p4 * (p2 + 1))) + (G 0 35))), (9, .int r7), (0, .ref (a 0)), (1, .int p0), (2, .int p1), (3, .int p2), (4, .int p3), (5, .int p4), (6, .int p5)]) dX13_teethAt_200 (j := 12) rfl x6_8.toInt 1 rfl rfl (by omega) (by omega) (by decide) (fun _ => rfl) (fun y38 ey38 => ?_)
              refine g_goto F 6 dX13_teethAt_203 (by decide) ?_
              refine g_locals [(0, .ref (a 0)), (1, .int p0), (2, .int p1), (3, .int p2), (4, .int p3), (5, .int p4), (6, .int p5), (7, .int (x6_7 + r16)), (8, .int y38)] [6, 7, 8, 9, 10, 11, 12, 2, 0] rfl ?_
              exact ih_6 (x6_7 + r16) y38 (gu_up (gu_up G26 0 28 y35) 14 (r7.toInt).toNat ((p3 - (p4 * (p2 + 1))) + (G 0 35))) (by omega) (by have h9 := ti_rng (x6_7 + r16); omega) (by have h9 := ti_rng y38; omega) (gu_I.up (j := 14) (k := (r7.toInt).toNat) (v := ((p3 - (p4 * (p2 + 1))) + (G 0 35))) (gu_I.up (j := 0) (k := 28) (v := y35) hI27 (show (0 : Int) ≤ Int32.toInt y35 by omega) (show Int32.toInt y35 ≤ 30000 by omega)) (show ((-9998) : Int) ≤ Int32.toInt ((p3 - (p4 * (p2 + 1))) + (G 0 35)) by omega) (show Int32.toInt ((p3 - (p4 * (p2 + 1))) + (G 0 35)) ≤ 5000 by omega)) (gu_un.up (j := 14) (k := (r7.toInt).toNat) (v := ((p3 - (p4 * (p2 + 1))) + (G 0 35))) (gu_un.up (j := 0) (k := 28) (v := y35) (gu_un.tr (gu_un.tr (gu_un.tr gu_un.rf (gu_un.su jU6 rfl)) (gu_un.su hU20 rfl)) (gu_un.su hU28 rfl)) (show (29 : Nat) ∈ ([29, 1300, 1400, 1500, 1600, 1700, 1800, 2100] : List Nat) by decide)) (show (1400 : Nat) ∈ ([29, 1300, 1400, 1500, 1600, 1700, 1800, 2100] : List Nat) by decide)) (fun Q S C hq hs => by obtain ⟨h1, h2⟩ := yt Q S C hq hs; have hp := psP_of (Q := Q) (i := s1) (k := (x6_8.toInt).toNat) (t := G 5 (x6_8.toInt).toNat) (s := G 3 0) ey6.2.2.2 (by omega) rfl (hq.2.1 _ (by omega)) hq.1; have hcut : ((p3 - (p4 * (p2 + 1))) + (G 0 35)) = psF Q p2 + (G 0 35) := (by rw [hq.2.2.1]); have hc := pR.chp (chip := (((Gj6 14) ((16 * s0 + y6.toInt)).toNat) - ((p3 - (p4 * (p2 + 1))) + (G 0 35)))) h1 hp (by omega) hcut (by unfold yHr; rw [show 16 * s0 + (((y6.toInt).toNat : Nat) : Int) = 16 * s0 + y6.toInt by omega]); have e0_ := (mLun (show gu_un ycd [29, 1300, 1400, 1500, 1600, 1700, 1800, 2100] G Gj6 from (gu_un.tr gu_un.rf (gu_un.su jU6 rfl))) rfl : mL 0 Gj6 = mL 0 G); have e2_ := (mLun (show gu_un ycd [29, 1300, 1400, 1500, 1600, 1700, 1800, 2100] G G18 from (gu_un.tr (gu_un.tr gu_un.rf (gu_un.su jU6 rfl)) (gu_un.su hU20 rfl))) rfl : mL 2 G18 = mL 2 G); exact ⟨pR.bite h1 hc (by omega) hp hcut (yHr_up (by omega) (show r7.toInt = 16 * s0 + (((y6.toInt).toNat : Nat) : Int) by omega) (show (gu_up (gu_up G26 0 28 y35) 14 (r7.toInt).toNat ((p3 - (p4 * (p2 + 1))) + (G 0 35))) 14 = (upd (Gj6 14) (r7.toInt).toNat ((p3 - (p4 * (p2 + 1))) + (G 0 35))) from (congrArg (fun f_ => upd f_ (r7.toInt).toNat ((p3 - (p4 * (p2 + 1))) + (G 0 35))) ((show G26 14 = G18 14 from funext fun k_ => hU28 14 k_ (by simp [ycd])).trans (show G18 14 = (Gj6 14) from ((show G18 14 = Gj6 14 from funext fun k_ => hU20 14 k_ (by simp [ycd])).trans (show Gj6 14 = (Gj6 14) from rfl))))))) (by rw [hq.2.2.2.1, ← e0_]; have hf := q22 (by rw [e0_, ← hq.2.2.2.1]; exact hq.2.2.2.2.2.1); rw [Int32.ofInt_toInt] at hf; exact congrArg (x6_7 + ·) hf) (by rw [hq.2.2.2.2.1, ← e2_]; have hv := q30 (by rw [e2_, ← hq.2.2.2.2.1]; exact hq.2.2.2.2.2.2); exact psW_of (y := y35) (by rw [← hv]; (first | omega | (simp only [Int32.reduceToInt, true_and, and_true, ne_eq, not_true_eq_false, false_and, or_false, false_or, true_or, or_true, false_implies] <;> omega)))) (by omega) (show (gu_up (gu_up G26 0 28 y35) 14 (r7.toInt).toNat ((p3 - (p4 * (p2 + 1))) + (G 0 35))) 21 2 = Gj6 21 2 from (show gu_un ycd [29, 1300, 1400] Gj6 (gu_up (gu_up G26 0 28 y35) 14 (r7.toInt).toNat ((p3 - (p4 * (p2 + 1))) + (G 0 35))) from (gu_un.up (j := 14) (k := (r7.toInt).toNat) (v := ((p3 - (p4 * (p2 + 1))) + (G 0 35))) (gu_un.up (j := 0) (k := 28) (v := y35) (gu_un.tr (gu_un.tr gu_un.rf (gu_un.su hU20 rfl)) (gu_un.su hU28 rfl)) (show (29 : Nat) ∈ ([29, 1300, 1400] : List Nat) by decide)) (show (1400 : Nat) ∈ ([29, 1300, 1400] : List Nat) by decide))) 21 2 (by decide)), fun A0 B0 C0 D0 h8 h9 => absurd (by omega) h8⟩) (⟨fun q hq => ((show gu_un ycd [29, 1300, 1400] Gj6 (gu_up (gu_up G26 0 28 y35) 14 (r7.toInt).toNat ((p3 - (p4 * (p2 + 1))) + (G 0 35))) from (gu_un.up (j := 14) (k := (r7.toInt).toNat) (v := ((p3 - (p4 * (p2 + 1))) + (G 0 35))) (gu_un.up (j := 0) (k := 28) (v := y35) (gu_un.tr (gu_un.tr gu_un.rf (gu_un.su hU20 rfl)) (gu_un.su hU28 rfl)) (show (29 : Nat) ∈ ([29, 1300, 1400] : List Nat) by decide)) (show (1400 : Nat) ∈ ([29, 1300, 1400] : List Nat) by decide))) 21 q (by simp [ycd])).trans (nw.1 q hq), fun h9 => ⟨(show (gu_up (gu_up G26 0 28 y35) 14 (r7.toInt).toNat ((p3 - (p4 * (p2 + 1))) + (G 0 35))) 15 = Gj6 15 from funext fun k_ => (show gu_un ycd [29, 1300, 1400] Gj6 (gu_up (gu_up G26 0 28 y35) 14 (r7.toInt).toNat ((p3 - (p4 * (p2 + 1))) + (G 0 35))) from (gu_un.up (j := 14) (k := (r7.toInt).toNat) (v := ((p3 - (p4 * (p2 + 1))) + (G 0 35))) (gu_un.up (j := 0) (k := 28) (v := y35) (gu_un.tr (gu_un.tr gu_un.rf (gu_un.su hU20 rfl)) (gu_un.su hU28 rfl)) (show (29 : Nat) ∈ ([29, 1300, 1400] : List Nat) by decide)) (show (1400 : Nat) ∈ ([29, 1300, 1400] : List Nat) by decide))) 15 k_ (by simp [ycd])).trans (nw.2 h9).1, (show (gu_up (gu_up G26 0 28 y35) 14 (r7.toInt).toNat ((p3 - (p4 * (p2 + 1))) + (G 0 35))) 16 = Gj6 16 from funext fun k_ => (show gu_un ycd [29, 1300, 1400] Gj6 (gu_up (gu_up G26 0 28 y35) 14 (r7.toInt).toNat ((p3 - (p4 * (p2 + 1))) + (G 0 35))) from (gu_un.up (j := 14) (k := (r7.toInt).toNat) (v := ((p3 - (p4 * (p2 + 1))) + (G 0 35))) (gu_un.up (j := 0) (k := 28) (v := y35) (gu_un.tr (gu_un.tr gu_un.rf (gu_un.su hU20 rfl)) (gu_un.su hU28 rfl)) (show (29 : Nat) ∈ ([29, 1300, 1400] : List Nat) by decide)) (show (1400 : Nat) ∈ ([29, 1300, 1400] : List Nat) by decide))) 16 k_ (by simp [ycd])).trans (nw.2 h9).2.1, (show (gu_up (gu_up G26 0 28 y35) 14 (r7.toInt).toNat ((p3 - (p4 * (p2 + 1))) + (G 0 35))) 17 = Gj6 17 from funext fun k_ => (show gu_un ycd [29, 1300, 1400] Gj6 (gu_up (gu_up G26 0 28 y35) 14 (r7.toInt).toNat ((p3 - (p4 * (p2 + 1))) + (G 0 35))) from (gu_un.up (j := 14) (k := (r7.toInt).toNat) (v := ((p3 - (p4 * (p2 + 1))) + (G 0 35))) (gu_un.up (j := 0) (k := 28) (v := y35) (gu_un.tr (gu_un.tr gu_un.rf (gu_un.su hU20 rfl)) (gu_un.su hU28 rfl)) (show (29 : Nat) ∈ ([29, 1300, 1400] : List Nat) by decide)) (show (1400 : Nat) ∈ ([29, 1300, 1400] : List Nat) by decide))) 17 k_ (by simp [ycd])).trans (nw.2 h9).2.2.1, (show (gu_up (gu_up G26 0 28 y35) 14 (r7.toInt).toNat ((p3 - (p4 * (p2 + 1))) + (G 0 35))) 18 = Gj6 18 from funext fun k_ => (show gu_un ycd [29, 1300, 1400] Gj6 (gu_up (gu_up G26 0 28 y35) 14 (r7.toInt).toNat ((p3 - (p4 * (p2 + 1))) + (G 0 35))) from (gu_un.up (j := 14) (k := (r7.toInt).toNat) (v := ((p3 - (p4 * (p2 + 1))) + (G 0 35))) (gu_un.up (j := 0) (k := 28) (v := y35) (gu_un.tr (gu_un.tr gu_un.rf (gu_un.su hU20 rfl)) (gu_un.su hU28 rfl)) (show (29 : Nat) ∈ ([29, 1300, 1400] : List Nat) by decide)) (show (1400 : Nat) ∈ ([29, 1300, 1400] : List Nat) by decide))) 18 k_ (by simp [ycd])).trans (nw.2 h9).2.2.2⟩⟩) (yOt.bite (pl := y6.toInt) (p := r7.toInt) (a := 0) (b := 0) (c := 0) (d := 0) ot (by omega) (by omega) (by omega) (by omega) (show (gu_up (gu_up G26 0 28 y35) 14 (r7.toInt).toNat ((p3 - (p4 * (p2 + 1))) + (G 0 35))) 14 = (upd (Gj6 14) (r7.toInt).toNat ((p3 - (p4 * (p2 + 1))) + (G 0 35))) from (congrArg (fun f_ => upd f_ (r7.toInt).toNat ((p3 - (p4 * (p2 + 1))) + (G 0 35))) ((show G26 14 = G18 14 from funext fun k_ => hU28 14 k_ (by simp [ycd])).trans (show G18 14 = (Gj6 14) from ((show G18 14 = Gj6 14 from funext fun k_ => hU20 14 k_ (by simp [ycd])).trans (show Gj6 14 = (Gj6 14) from rfl)))))) (Or.inl (show (gu_up (gu_up G26 0 28 y35) 14 (r7.toInt).toNat ((p3 - (p4 * (p2 + 1))) + (G 0 35))) 15 = Gj6 15 from funext fun k_ => (show gu_un ycd [29, 1300, 1400] Gj6 (gu_up (gu_up G26 0 28 y35) 14 (r7.toInt).toNat ((p3 - (p4 * (p2 + 1))) + (G 0 35))) from (gu_un.up (j := 14) (k := (r7.toInt).toNat) (v := ((p3 - (p4 * (p2 + 1))) + (G 0 35))) (gu_un.up (j := 0) (k := 28) (v := y35) (gu_un.tr (gu_un.tr gu_un.rf (gu_un.su hU20 rfl)) (gu_un.su hU28 rfl)) (show (29 : Nat) ∈ ([29, 1300, 1400] : List Nat) by decide)) (show (1400 : Nat) ∈ ([29, 1300, 1400] : List Nat) by decide))) 15 k_ (by simp [ycd]))) (Or.inl (show (gu_up (gu_up G26 0 28 y35) 14 (r7.toInt).toNat ((p3 - (p4 * (p2 + 1))) + (G 0 35))) 16 = Gj6 16 from funext fun k_ => (show gu_un ycd [29, 1300, 1400] Gj6 (gu_up (gu_up G26 0 28 y35) 14 (r7.toInt).toNat ((p3 - (p4 * (p2 + 1))) + (G 0 35))) from (gu_un.up (j := 14) (k := (r7.toInt).toNat) (v := ((p3 - (p4 * (p2 + 1))) + (G 0 35))) (gu_un.up (j := 0) (k := 28) (v := y35) (gu_un.tr (gu_un.tr gu_un.rf (gu_un.su hU20 rfl)) (gu_un.su hU28 rfl)) (show (29 : Nat) ∈ ([29, 1300, 1400] : List Nat) by decide)) (show (1400 : Nat) ∈ ([29, 1300, 1400] : List Nat) by decide))) 16 k_ (by simp [ycd]))) (Or.inl (show (gu_up (gu_up G26 0 28 y35) 14 (r7.toInt).toNat ((p3 - (p4 * (p2 + 1))) + (G 0 35))) 17 = Gj6 17 from funext fun k_ => (show gu_un ycd [29, 1300, 1400] Gj6 (gu_up (gu_up G26 0 28 y35) 14 (r7.toInt).toNat ((p3 - (p4 * (p2 + 1))) + (G 0 35))) from (gu_un.up (j := 14) (k := (r7.toInt).toNat) (v := ((p3 - (p4 * (p2 + 1))) + (G 0 35))) (gu_un.up (j := 0) (k := 28) (v := y35) (gu_un.tr (gu_un.tr gu_un.rf (gu_un.su hU20 rfl)) (gu_un.su hU28 rfl)) (show (29 : Nat) ∈ ([29, 1300, 1400] : List Nat) by decide)) (show (1400 : Nat) ∈ ([29, 1300, 1400] : List Nat) by decide))) 17 k_ (by simp [ycd]))) (Or.inl (show (gu_up (gu_up G26 0 28 y35) 14 (r7.toInt).toNat ((p3 - (p4 * (p2 + 1))) + (G 0 35))) 18 = Gj6 18 from funext fun k_ => (show gu_un ycd [29, 1300, 1400] Gj6 (gu_up (gu_up G26 0 28 y35) 14 (r7.toInt).toNat ((p3 - (p4 * (p2 + 1))) + (G 0 35))) from (gu_un.up (j := 14) (k := (r7.toInt).toNat) (v := ((p3 - (p4 * (p2 + 1))) + (G 0 35))) (gu_un.up (j := 0) (k := 28) (v := y35) (gu_un.tr (gu_un.tr gu_un.rf (gu_un.su hU20 rfl)) (gu_un.su hU28 rfl)) (show (29 : Nat) ∈ ([29, 1300, 1400] : List Nat) by decide)) (show (1400 : Nat) ∈ ([29, 1300, 1400] : List Nat) by decide))) 18 k_ (by simp [ycd])))) (by have e9_3_10 : (gu_up (gu_up G26 0 28 y35) 14 (r7.toInt).toNat ((p3 - (p4 * (p2 + 1))) + (G 0 35))) 3 10 = (G 3 10) := (hU28 3 10 (by decide)).trans ((hU20 3 10 (by decide)).trans (jU6 3 10 (by decide))); (try simp only [e9_3_10, true_and, and_true]) <;> (first | omega | (simp only [Int32.reduceToInt, true_and, and_true, ne_eq, not_true_eq_false, false_and, or_false, false_or, true_or, or_true, false_implies] <;> omega))) (by (first | omega | (simp only [Int32.reduceToInt, true_and, and_true, ne_eq, not_true_eq_false, false_and, or_false, false_or, true_or, or_true, false_implies] <;> omega)))
          · refine g_sipush F 30000 dX13_teethAt_129 (by decide) ?_
            refine g_goto F 142 dX13_teethAt_132 (by decide) ?_
            refine yp_0_28 F i_X13 w_4 dX13_teethAt_142 ?_
            refine g_aload_n F 5 dX13_teethAt_145 rfl rfl ?_
            refine yg_0_23 F i_X13 w_3 dX13_teethAt_146 ?_
            refine g_iload F 4 dX13_teethAt_149 rfl ?_
            refine g_iload F 3 dX13_teethAt_151 rfl ?_
            refine u_iast F 14 0 yc_14 rfl r7.toInt rfl (by omega) (by omega) (yW K a (gu_up (gu_up G26 0 28 30000) 14 (r7.toInt).toNat ((p3 - (p4 * (p2 + 1))) + (G 0 35)))) (ys_14 _) dX13_teethAt_153 ?_
            refine g_iload F 11 dX13_teethAt_154 rfl ?_
            refine g_iconst F (-1) dX13_teethAt_156 (by decide) ?_
            refine v_icmp_ne F 163 dX13_teethAt_157 (by decide) s5 (-1) e5 rfl (fun c39 => ?_) (fun c39 => ?_)
            · refine g_aload_n F 5 dX13_teethAt_163 rfl rfl ?_
              refine yg_0_24 F i_X13 w_9 dX13_teethAt_164 ?_
              refine g_iload F 4 dX13_teethAt_167 rfl ?_
              refine g_iload F 11 dX13_teethAt_169 rfl ?_
              refine u_iast F 15 0 yc_15 rfl r7.toInt rfl (by omega) (by omega) (yW K a (gu_up (gu_up (gu_up G26 0 28 30000) 14 (r7.toInt).toNat ((p3 - (p4 * (p2 + 1))) + (G 0 35))) 15 (r7.toInt).toNat p5)) (ys_15 _) dX13_teethAt_171 ?_
              refine g_aload_n F 5 dX13_teethAt_172 rfl rfl ?_
              refine yg_0_25 F i_X13 w_10 dX13_teethAt_173 ?_
              refine g_iload F 4 dX13_teethAt_176 rfl ?_
              refine g_iload_n F 8 dX13_teethAt_178 rfl rfl ?_
              refine u_iast F 16 0 yc_16 rfl r7.toInt rfl (by omega) (by omega) (yW K a (gu_up (gu_up (gu_up (gu_up G26 0 28 30000) 14 (r7.toInt).toNat ((p3 - (p4 * (p2 + 1))) + (G 0 35))) 15 (r7.toInt).toNat p5) 16 (r7.toInt).toNat p2)) (ys_16 _) dX13_teethAt_179 ?_
              refine g_aload_n F 5 dX13_teethAt_180 rfl rfl ?_
              refine yg_0_26 F i_X13 w_11 dX13_teethAt_181 ?_
              refine g_iload F 4 dX13_teethAt_184 rfl ?_
              refine g_iload F 12 dX13_teethAt_186 rfl ?_
              refine u_iast F 17 0 yc_17 rfl r7.toInt rfl (by omega) (by omega) (yW K a (gu_up (gu_up (gu_up (gu_up (gu_up G26 0 28 30000) 14 (r7.toInt).toNat ((p3 - (p4 * (p2 + 1))) + (G 0 35))) 15 (r7.toInt).toNat p5) 16 (r7.toInt).toNat p2) 17 (r7.toInt).toNat x6_8)) (ys_17 _) dX13_teethAt_188 ?_
              refine g_aload_n F 5 dX13_teethAt_189 rfl rfl ?_
              refine yg_0_27 F i_X13 w_12 dX13_teethAt_190 ?_
              refine g_iload F 4 dX13_teethAt_193 rfl ?_
              refine g_aload_n F 5 dX13_teethAt_195 rfl rfl ?_
              refine yg_0_35 F i_X13 w_2 dX13_teethAt_196 (G 0 35) ((hU28 0 35 (by decide)).trans ((hU20 0 35 (by decide)).trans (jU6 0 35 (by decide)))) ?_
              refine u_iast F 18 0 yc_18 rfl r7.toInt rfl (by omega) (by omega) (yW K a (gu_up (gu_up (gu_up (gu_up (gu_up (gu_up G26 0 28 30000) 14 (r7.toInt).toNat ((p3 - (p4 * (p2 + 1))) + (G 0 35))) 15 (r7.toInt).toNat p5) 16 (r7.toInt).toNat p2) 17 (r7.toInt).toNat x6_8) 18 (r7.toInt).toNat (G 0 35))) (ys_18 _) dX13_teethAt_199 ?_
              refine u_iinc F (fun v_ => [(8, .int v_), (12, .int y31), (7, .int (x6_7 + r16)), (11, .int (((Gj6 14) ((16 * s0 + y6.toInt)).toNat) - ((p3 - (p4 * (p2 + 1))) + (G 0 35)))), (10, .int ((p3 - (p4 * (p2 + 1))) + (G 0 35))), (9, .int r7), (0, .ref (a 0)), (1, .int p0), (2, .int p1), (3, .int p2), (4, .int p3), (5, .int p4), (6, .int p5)]) dX13_teethAt_200 (j := 12) rfl x6_8.toInt 1 rfl rfl (by omega) (by omega) (by decide) (fun _ => rfl) (fun y40 ey40 => ?_)
              refine g_goto F 6 dX13_teethAt_203 (by decide) ?_
              refine g_locals [(0, .ref (a 0)), (1, .int p0), (2, .int p1), (3, .int p2), (4, .int p3), (5, .int p4), (6, .int p5), (7, .int (x6_7 + r16)), (8, .int y40)] [6, 7, 8, 9, 10, 11, 12, 2, 0] rfl ?_
              exact ih_6 (x6_7 + r16) y40 (gu_up (gu_up (gu_up (gu_up (gu_up (gu_up G26 0 28 30000) 14 (r7.toInt).toNat ((p3 - (p4 * (p2 + 1))) + (G 0 35))) 15 (r7.toInt).toNat p5) 16 (r7.toInt).toNat p2) 17 (r7.toInt).toNat x6_8) 18 (r7.toInt).toNat (G 0 35)) (by omega) (by have h9 := ti_rng (x6_7 + r16); omega) (by have h9 := ti_rng y40; omega) (gu_I.up (j := 18) (k := (r7.toInt).toNat) (v := (G 0 35)) (gu_I.up (j := 17) (k := (r7.toInt).toNat) (v := x6_8) (gu_I.up (j := 16) (k := (r7.toInt).toNat) (v := p2) (gu_I.up (j := 15) (k := (r7.toInt).toNat) (v := p5) (gu_I.up (j := 14) (k := (r7.toInt).toNat) (v := ((p3 - (p4 * (p2 + 1))) + (G 0 35))) (gu_I.up (j := 0) (k := 28) (v := 30000) hI27 (show (0 : Int) ≤ (30000 : Int32).toInt by decide) (show (30000 : Int32).toInt ≤ 30000 by decide)) (show ((-9998) : Int) ≤ Int32.toInt ((p3 - (p4 * (p2 + 1))) + (G 0 35)) by omega) (show Int32.toInt ((p3 - (p4 * (p2 + 1))) + (G 0 35)) ≤ 5000 by omega)) (ti_rng _).1 (ti_rng _).2) (ti_rng _).1 (ti_rng _).2) (ti_rng _).1 (ti_rng _).2) (ti_rng _).1 (ti_rng _).2) (gu_un.up (j := 18) (k := (r7.toInt).toNat) (v := (G 0 35)) (gu_un.up (j := 17) (k := (r7.toInt).toNat) (v := x6_8) (gu_un.up (j := 16) (k := (r7.toInt).toNat) (v := p2) (gu_un.up (j := 15) (k := (r7.toInt).toNat) (v := p5) (gu_un.up (j := 14) (k := (r7.toInt).toNat) (v := ((p3 - (p4 * (p2 + 1))) + (G 0 35))) (gu_un.up (j := 0) (k := 28) (v := 30000) (gu_un.tr (gu_un.tr (gu_un.tr gu_un.rf (gu_un.su jU6 rfl)) (gu_un.su hU20 rfl)) (gu_un.su hU28 rfl)) (show (29 : Nat) ∈ ([29, 1300, 1400, 1500, 1600, 1700, 1800, 2100] : List Nat) by decide)) (show (1400 : Nat) ∈ ([29, 1300, 1400, 1500, 1600, 1700, 1800, 2100] : List Nat) by decide)) (show (1500 : Nat) ∈ ([29, 1300, 1400, 1500, 1600, 1700, 1800, 2100] : List Nat) by decide)) (show (1600 : Nat) ∈ ([29, 1300, 1400, 1500, 1600, 1700, 1800, 2100] : List Nat) by decide)) (show (1700 : Nat) ∈ ([29, 1300, 1400, 1500, 1600, 1700, 1800, 2100] : List Nat) by decide)) (show (1800 : Nat) ∈ ([29, 1300, 1400, 1500, 1600, 1700, 1800, 2100] : List Nat) by decide)) (fun Q S C hq hs => by obtain ⟨h1, h2⟩ := yt Q S C hq hs; have hp := psP_of (Q := Q) (i := s1) (k := (x6_8.toInt).toNat) (t := G 5 (x6_8.toInt).toNat) (s := G 3 0) ey6.2.2.2 (by omega) rfl (hq.2.1 _ (by omega)) hq.1; have hcut : ((p3 - (p4 * (p2 + 1))) + (G 0 35)) = psF Q p2 + (G 0 35) := (by rw [hq.2.2.1]); have hc := pR.chp (chip := (((Gj6 14) ((16 * s0 + y6.toInt)).toNat) - ((p3 - (p4 * (p2 + 1))) + (G 0 35)))) h1 hp (by omega) hcut (by unfold yHr; rw [show 16 * s0 + (((y6.toInt).toNat : Nat) : Int) = 16 * s0 + y6.toInt by omega]); have e0_ := (mLun (show gu_un ycd [29, 1300, 1400, 1500, 1600, 1700, 1800, 2100] G Gj6 from (gu_un.tr gu_un.rf (gu_un.su jU6 rfl))) rfl : mL 0 Gj6 = mL 0 G); have e2_ := (mLun (show gu_un ycd [29, 1300, 1400, 1500, 1600, 1700, 1800, 2100] G G18 from (gu_un.tr (gu_un.tr gu_un.rf (gu_un.su jU6 rfl)) (gu_un.su hU20 rfl))) rfl : mL 2 G18 = mL 2 G); exact ⟨pR.bite h1 hc (by omega) hp hcut (yHr_up (by omega) (show r7.toInt = 16 * s0 + (((y6.toInt).toNat : Nat) : Int) by omega) (show (gu_up (gu_up (gu_up (gu_up (gu_up (gu_up G26 0 28 30000) 14 (r7.toInt).toNat ((p3 - (p4 * (p2 + 1))) + (G 0 35))) 15 (r7.toInt).toNat p5) 16 (r7.toInt).toNat p2) 17 (r7.toInt).toNat x6_8) 18 (r7.toInt).toNat (G 0 35)) 14 = (upd (Gj6 14) (r7.toInt).toNat ((p3 - (p4 * (p2 + 1))) + (G 0 35))) from (congrArg (fun f_ => upd f_ (r7.toInt).toNat ((p3 - (p4 * (p2 + 1))) + (G 0 35))) ((show G26 14 = G18 14 from funext fun k_ => hU28 14 k_ (by simp [ycd])).trans (show G18 14 = (Gj6 14) from ((show G18 14 = Gj6 14 from funext fun k_ => hU20 14 k_ (by simp [ycd])).trans (show Gj6 14 = (Gj6 14) from rfl))))))) (by rw [hq.2.2.2.1, ← e0_]; have hf := q22 (by rw [e0_, ← hq.2.2.2.1]; exact hq.2.2.2.2.2.1); rw [Int32.ofInt_toInt] at hf; exact congrArg (x6_7 + ·) hf) (by rw [hq.2.2.2.2.1, ← e2_]; have hv := q30 (by rw [e2_, ← hq.2.2.2.2.1]; exact hq.2.2.2.2.2.2); exact psW_of (y := 30000) (by rw [← hv]; (first | omega | (simp only [Int32.reduceToInt, true_and, and_true, ne_eq, not_true_eq_false, false_and, or_false, false_or, true_or, or_true, false_implies] <;> omega)))) (by omega) (show (gu_up (gu_up (gu_up (gu_up (gu_up (gu_up G26 0 28 30000) 14 (r7.toInt).toNat ((p3 - (p4 * (p2 + 1))) + (G 0 35))) 15 (r7.toInt).toNat p5) 16 (r7.toInt).toNat p2) 17 (r7.toInt).toNat x6_8) 18 (r7.toInt).toNat (G 0 35)) 21 2 = Gj6 21 2 from (show gu_un ycd [29, 1300, 1400, 1500, 1600, 1700, 1800] Gj6 (gu_up (gu_up (gu_up (gu_up (gu_up (gu_up G26 0 28 30000) 14 (r7.toInt).toNat ((p3 - (p4 * (p2 + 1))) + (G 0 35))) 15 (r7.toInt).toNat p5) 16 (r7.toInt).toNat p2) 17 (r7.toInt).toNat x6_8) 18 (r7.toInt).toNat (G 0 35)) from (gu_un.up (j := 18) (k := (r7.toInt).toNat) (v := (G 0 35)) (gu_un.up (j := 17) (k := (r7.toInt).toNat) (v := x6_8) (gu_un.up (j := 16) (k := (r7.toInt).toNat) (v := p2) (gu_un.up (j := 15) (k := (r7.toInt).toNat) (v := p5) (gu_un.up (j := 14) (k := (r7.toInt).toNat) (v := ((p3 - (p4 * (p2 + 1))) + (G 0 35))) (gu_un.up (j := 0) (k := 28) (v := 30000) (gu_un.tr (gu_un.tr gu_un.rf (gu_un.su hU20 rfl)) (gu_un.su hU28 rfl)) (show (29 : Nat) ∈ ([29, 1300, 1400, 1500, 1600, 1700, 1800] : List Nat) by decide)) (show (1400 : Nat) ∈ ([29, 1300, 1400, 1500, 1600, 1700, 1800] : List Nat) by decide)) (show (1500 : Nat) ∈ ([29, 1300, 1400, 1500, 1600, 1700, 1800] : List Nat) by decide)) (show (1600 : Nat) ∈ ([29, 1300, 1400, 1500, 1600, 1700, 1800] : List Nat) by decide)) (show (1700 : Nat) ∈ ([29, 1300, 1400, 1500, 1600, 1700, 1800] : List Nat) by decide)) (show (1800 : Nat) ∈ ([29, 1300, 1400, 1500, 1600, 1700, 1800] : List Nat) by decide))) 21 2 (by decide)), fun A0 B0 C0 D0 h8 h9 => yLf.bite (h2 A0 B0 C0 D0 h8 h9) h1.2.2.1 hc (by omega) hp (by omega) (fun h7 => by have h6 := congrArg Int32.toInt h7; rw [e2] at h6; have h5 : (-1 : Int32).toInt = -1 := rfl; omega) (show r7.toInt = 16 * s0 + (((y6.toInt).toNat : Nat) : Int) by omega) (show (gu_up (gu_up (gu_up (gu_up (gu_up (gu_up G26 0 28 30000) 14 (r7.toInt).toNat ((p3 - (p4 * (p2 + 1))) + (G 0 35))) 15 (r7.toInt).toNat p5) 16 (r7.toInt).toNat p2) 17 (r7.toInt).toNat x6_8) 18 (r7.toInt).toNat (G 0 35)) 15 = (upd (Gj6 15) (r7.toInt).toNat p5) from (congrArg (fun f_ => upd f_ (r7.toInt).toNat p5) ((show G26 15 = G18 15 from funext fun k_ => hU28 15 k_ (by simp [ycd])).trans (show G18 15 = (Gj6 15) from ((show G18 15 = Gj6 15 from funext fun k_ => hU20 15 k_ (by simp [ycd])).trans (show Gj6 15 = (Gj6 15) from rfl)))))) (show (gu_up (gu_up (gu_up (gu_up (gu_up (gu_up G26 0 28 30000) 14 (r7.toInt).toNat ((p3 - (p4 * (p2 + 1))) + (G 0 35))) 15 (r7.toInt).toNat p5) 16 (r7.toInt).toNat p2) 17 (r7.toInt).toNat x6_8) 18 (r7.toInt).toNat (G 0 35)) 16 = (upd (Gj6 16) (r7.toInt).toNat p2) from (congrArg (fun f_ => upd f_ (r7.toInt).toNat p2) ((show G26 16 = G18 16 from funext fun k_ => hU28 16 k_ (by simp [ycd])).trans (show G18 16 = (Gj6 16) from ((show G18 16 = Gj6 16 from funext fun k_ => hU20 16 k_ (by simp [ycd])).trans (show Gj6 16 = (Gj6 16) from rfl)))))) (by rw [i32_nat (by omega)]; exact (show (gu_up (gu_up (gu_up (gu_up (gu_up (gu_up G26 0 28 30000) 14 (r7.toInt).toNat ((p3 - (p4 * (p2 + 1))) + (G 0 35))) 15 (r7.toInt).toNat p5) 16 (r7.toInt).toNat p2) 17 (r7.toInt).toNat x6_8) 18 (r7.toInt).toNat (G 0 35)) 17 = (upd (Gj6 17) (r7.toInt).toNat x6_8) from (congrArg (fun f_ => upd f_ (r7.toInt).toNat x6_8) ((show G26 17 = G18 17 from funext fun k_ => hU28 17 k_ (by simp [ycd])).trans (show G18 17 = (Gj6 17) from ((show G18 17 = Gj6 17 from funext fun k_ => hU20 17 k_ (by simp [ycd])).trans (show Gj6 17 = (Gj6 17) from rfl))))))) (show (gu_up (gu_up (gu_up (gu_up (gu_up (gu_up G26 0 28 30000) 14 (r7.toInt).toNat ((p3 - (p4 * (p2 + 1))) + (G 0 35))) 15 (r7.toInt).toNat p5) 16 (r7.toInt).toNat p2) 17 (r7.toInt).toNat x6_8) 18 (r7.toInt).toNat (G 0 35)) 18 = (upd (Gj6 18) (r7.toInt).toNat (G 0 35)) from (congrArg (fun f_ => upd f_ (r7.toInt).toNat (G 0 35)) ((show G26 18 = G18 18 from funext fun k_ => hU28 18 k_ (by simp [ycd])).trans (show G18 18 = (Gj6 18) from ((show G18 18 = Gj6 18 from funext fun k_ => hU20 18 k_ (by simp [ycd])).trans (show Gj6 18 = (Gj6 18) from rfl)))))) (by omega)⟩) (⟨fun q hq => ((show gu_un ycd [29, 1300, 1400, 1500, 1600, 1700, 1800] Gj6 (gu_up (gu_up (gu_up (gu_up (gu_up (gu_up G26 0 28 30000) 14 (r7.toInt).toNat ((p3 - (p4 * (p2 + 1))) + (G 0 35))) 15 (r7.toInt).toNat p5) 16 (r7.toInt).toNat p2) 17 (r7.toInt).toNat x6_8) 18 (r7.toInt).toNat (G 0 35)) from (gu_un.up (j := 18) (k := (r7.toInt).toNat) (v := (G 0 35)) (gu_un.up (j := 17) (k := (r7.toInt).toNat) (v := x6_8) (gu_un.up (j := 16) (k := (r7.toInt).toNat) (v := p2) (gu_un.up (j := 15) (k := (r7.toInt).toNat) (v := p5) (gu_un.up (j := 14) (k := (r7.toInt).toNat) (v := ((p3 - (p4 * (p2 + 1))) + (G 0 35))) (gu_un.up (j := 0) (k := 28) (v := 30000) (gu_un.tr (gu_un.tr gu_un.rf (gu_un.su hU20 rfl)) (gu_un.su hU28 rfl)) (show (29 : Nat) ∈ ([29, 1300, 1400, 1500, 1600, 1700, 1800] : List Nat) by decide)) (show (1400 : Nat) ∈ ([29, 1300, 1400, 1500, 1600, 1700, 1800] : List Nat) by decide)) (show (1500 : Nat) ∈ ([29, 1300, 1400, 1500, 1600, 1700, 1800] : List Nat) by decide)) (show (1600 : Nat) ∈ ([29, 1300, 1400, 1500, 1600, 1700, 1800] : List Nat) by decide)) (show (1700 : Nat) ∈ ([29, 1300, 1400, 1500, 1600, 1700, 1800] : List Nat) by decide)) (show (1800 : Nat) ∈ ([29, 1300, 1400, 1500, 1600, 1700, 1800] : List Nat) by decide))) 21 q (by simp [ycd])).trans (nw.1 q hq), fun h9 => absurd h9 (by omega)⟩) (yOt.bite (pl := y6.toInt) (p := r7.toInt) ot (by omega) (by omega) (by omega) (by omega) (show (gu_up (gu_up (gu_up (gu_up (gu_up (gu_up G26 0 28 30000) 14 (r7.toInt).toNat ((p3 - (p4 * (p2 + 1))) + (G 0 35))) 15 (r7.toInt).toNat p5) 16 (r7.toInt).toNat p2) 17 (r7.toInt).toNat x6_8) 18 (r7.toInt).toNat (G 0 35)) 14 = (upd (Gj6 14) (r7.toInt).toNat ((p3 - (p4 * (p2 + 1))) + (G 0 35))) from (congrArg (fun f_ => upd f_ (r7.toInt).toNat ((p3 - (p4 * (p2 + 1))) + (G 0 35))) ((show G26 14 = G18 14 from funext fun k_ => hU28 14 k_ (by simp [ycd])).trans (show G18 14 = (Gj6 14) from ((show G18 14 = Gj6 14 from funext fun k_ => hU20 14 k_ (by simp [ycd])).trans (show Gj6 14 = (Gj6 14) from rfl)))))) (Or.inr (show (gu_up (gu_up (gu_up (gu_up (gu_up (gu_up G26 0 28 30000) 14 (r7.toInt).toNat ((p3 - (p4 * (p2 + 1))) + (G 0 35))) 15 (r7.toInt).toNat p5) 16 (r7.toInt).toNat p2) 17 (r7.toInt).toNat x6_8) 18 (r7.toInt).toNat (G 0 35)) 15 = (upd (Gj6 15) (r7.toInt).toNat p5) from (congrArg (fun f_ => upd f_ (r7.toInt).toNat p5) ((show G26 15 = G18 15 from funext fun k_ => hU28 15 k_ (by simp [ycd])).trans (show G18 15 = (Gj6 15) from ((show G18 15 = Gj6 15 from funext fun k_ => hU20 15 k_ (by simp [ycd])).trans (show Gj6 15 = (Gj6 15) from rfl))))))) (Or.inr (show (gu_up (gu_up (gu_up (gu_up (gu_up (gu_up G26 0 28 30000) 14 (r7.toInt).toNat ((p3 - (p4 * (p2 + 1))) + (G 0 35))) 15 (r7.toInt).toNat p5) 16 (r7.toInt).toNat p2) 17 (r7.toInt).toNat x6_8) 18 (r7.toInt).toNat (G 0 35)) 16 = (upd (Gj6 16) (r7.toInt).toNat p2) from (congrArg (fun f_ => upd f_ (r7.toInt).toNat p2) ((show G26 16 = G18 16 from funext fun k_ => hU28 16 k_ (by simp [ycd])).trans (show G18 16 = (Gj6 16) from ((show G18 16 = Gj6 16 from funext fun k_ => hU20 16 k_ (by simp [ycd])).trans (show Gj6 16 = (Gj6 16) from rfl))))))) (Or.inr (show (gu_up (gu_up (gu_up (gu_up (gu_up (gu_up G26 0 28 30000) 14 (r7.toInt).toNat ((p3 - (p4 * (p2 + 1))) + (G 0 35))) 15 (r7.toInt).toNat p5) 16 (r7.toInt).toNat p2) 17 (r7.toInt).toNat x6_8) 18 (r7.toInt).toNat (G 0 35)) 17 = (upd (Gj6 17) (r7.toInt).toNat x6_8) from (congrArg (fun f_ => upd f_ (r7.toInt).toNat x6_8) ((show G26 17 = G18 17 from funext fun k_ => hU28 17 k_ (by simp [ycd])).trans (show G18 17 = (Gj6 17) from ((show G18 17 = Gj6 17 from funext fun k_ => hU20 17 k_ (by simp [ycd])).trans (show Gj6 17 = (Gj6 17) from rfl))))))) (Or.inr (show (gu_up (gu_up (gu_up (gu_up (gu_up (gu_up G26 0 28 30000) 14 (r7.toInt).toNat ((p3 - (p4 * (p2 + 1))) + (G 0 35))) 15 (r7.toInt).toNat p5) 16 (r7.toInt).toNat p2) 17 (r7.toInt).toNat x6_8) 18 (r7.toInt).toNat (G 0 35)) 18 = (upd (Gj6 18) (r7.toInt).toNat (G 0 35)) from (congrArg (fun f_ => upd f_ (r7.toInt).toNat (G 0 35)) ((show G26 18 = G18 18 from funext fun k_ => hU28 18 k_ (by simp [ycd])).trans (show G18 18 = (Gj6 18) from ((show G18 18 = Gj6 18 from funext fun k_ => hU20 18 k_ (by simp [ycd])).trans (show Gj6 18 = (Gj6 18) from rfl)))))))) (by have e9_3_10 : (gu_up (gu_up (gu_up (gu_up (gu_up (gu_up G26 0 28 30000) 14 (r7.toInt).toNat ((p3 - (p4 * (p2 + 1))) + (G 0 35))) 15 (r7.toInt).toNat p5) 16 (r7.toInt).toNat p2) 17 (r7.toInt).toNat x6_8) 18 (r7.toInt).toNat (G 0 35)) 3 10 = (G 3 10) := (hU28 3 10 (by decide)).trans ((hU20 3 10 (by decide)).trans (jU6 3 10 (by decide))); (try simp only [e9_3_10, true_and, and_true]) <;> (first | omega | (simp only [Int32.reduceToInt, true_and, and_true, ne_eq, not_true_eq_false, false_and, or_false, false_or, true_or, or_true, false_implies] <;> omega))) (by (first | omega | (simp only [Int32.reduceToInt, true_and, and_true, ne_eq, not_true_eq_false, false_and, or_false, false_or, true_or, or_true, false_implies] <;> omega)))
            · refine g_goto F 200 dX13_teethAt_160 (by decide) ?_
              refine u_iinc F (fun v_ => [(8, .int v_), (12, .int y31), (7, .int (x6_7 + r16)), (11, .int (((Gj6 14) ((16 * s0 + y6.toInt)).toNat) - ((p3 - (p4 * (p2 + 1))) + (G 0 35)))), (10, .int ((p3 - (p4 * (p2 + 1))) + (G 0 35))), (9, .int r7), (0, .ref (a 0)), (1, .int p0), (2, .int p1), (3, .int p2), (4, .int p3), (5, .int p4), (6, .int p5)]) dX13_teethAt_200 (j := 12) rfl x6_8.toInt 1 rfl rfl (by omega) (by omega) (by decide) (fun _ => rfl) (fun y41 ey41 => ?_)
              refine g_goto F 6 dX13_teethAt_203 (by decide) ?_
              refine g_locals [(0, .ref (a 0)), (1, .int p0), (2, .int p1), (3, .int p2), (4, .int p3), (5, .int p4), (6, .int p5), (7, .int (x6_7 + r16)), (8, .int y41)] [6, 7, 8, 9, 10, 11, 12, 2, 0] rfl ?_
              exact ih_6 (x6_7 + r16) y41 (gu_up (gu_up G26 0 28 30000) 14 (r7.toInt).toNat ((p3 - (p4 * (p2 + 1))) + (G 0 35))) (by omega) (by have h9 := ti_rng (x6_7 + r16); omega) (by have h9 := ti_rng y41; omega) (gu_I.up (j := 14) (k := (r7.toInt).toNat) (v := ((p3 - (p4 * (p2 + 1))) + (G 0 35))) (gu_I.up (j := 0) (k := 28) (v := 30000) hI27 (show (0 : Int) ≤ (30000 : Int32).toInt by decide) (show (30000 : Int32).toInt ≤ 30000 by decide)) (show ((-9998) : Int) ≤ Int32.toInt ((p3 - (p4 * (p2 + 1))) + (G 0 35)) by omega) (show Int32.toInt ((p3 - (p4 * (p2 + 1))) + (G 0 35)) ≤ 5000 by omega)) (gu_un.up (j := 14) (k := (r7.toInt).toNat) (v := ((p3 - (p4 * (p2 + 1))) + (G 0 35))) (gu_un.up (j := 0) (k := 28) (v := 30000) (gu_un.tr (gu_un.tr (gu_un.tr gu_un.rf (gu_un.su jU6 rfl)) (gu_un.su hU20 rfl)) (gu_un.su hU28 rfl)) (show (29 : Nat) ∈ ([29, 1300, 1400, 1500, 1600, 1700, 1800, 2100] : List Nat) by decide)) (show (1400 : Nat) ∈ ([29, 1300, 1400, 1500, 1600, 1700, 1800, 2100] : List Nat) by decide)) (fun Q S C hq hs => by obtain ⟨h1, h2⟩ := yt Q S C hq hs; have hp := psP_of (Q := Q) (i := s1) (k := (x6_8.toInt).toNat) (t := G 5 (x6_8.toInt).toNat) (s := G 3 0) ey6.2.2.2 (by omega) rfl (hq.2.1 _ (by omega)) hq.1; have hcut : ((p3 - (p4 * (p2 + 1))) + (G 0 35)) = psF Q p2 + (G 0 35) := (by rw [hq.2.2.1]); have hc := pR.chp (chip := (((Gj6 14) ((16 * s0 + y6.toInt)).toNat) - ((p3 - (p4 * (p2 + 1))) + (G 0 35)))) h1 hp (by omega) hcut (by unfold yHr; rw [show 16 * s0 + (((y6.toInt).toNat : Nat) : Int) = 16 * s0 + y6.toInt by omega]); have e0_ := (mLun (show gu_un ycd [29, 1300, 1400, 1500, 1600, 1700, 1800, 2100] G Gj6 from (gu_un.tr gu_un.rf (gu_un.su jU6 rfl))) rfl : mL 0 Gj6 = mL 0 G); have e2_ := (mLun (show gu_un ycd [29, 1300, 1400, 1500, 1600, 1700, 1800, 2100] G G18 from (gu_un.tr (gu_un.tr gu_un.rf (gu_un.su jU6 rfl)) (gu_un.su hU20 rfl))) rfl : mL 2 G18 = mL 2 G); exact ⟨pR.bite h1 hc (by omega) hp hcut (yHr_up (by omega) (show r7.toInt = 16 * s0 + (((y6.toInt).toNat : Nat) : Int) by omega) (show (gu_up (gu_up G26 0 28 30000) 14 (r7.toInt).toNat ((p3 - (p4 * (p2 + 1))) + (G 0 35))) 14 = (upd (Gj6 14) (r7.toInt).toNat ((p3 - (p4 * (p2 + 1))) + (G 0 35))) from (congrArg (fun f_ => upd f_ (r7.toInt).toNat ((p3 - (p4 * (p2 + 1))) + (G 0 35))) ((show G26 14 = G18 14 from funext fun k_ => hU28 14 k_ (by simp [ycd])).trans (show G18 14 = (Gj6 14) from ((show G18 14 = Gj6 14 from funext fun k_ => hU20 14 k_ (by simp [ycd])).trans (show Gj6 14 = (Gj6 14) from rfl))))))) (by rw [hq.2.2.2.1, ← e0_]; have hf := q22 (by rw [e0_, ← hq.2.2.2.1]; exact hq.2.2.2.2.2.1); rw [Int32.ofInt_toInt] at hf; exact congrArg (x6_7 + ·) hf) (by rw [hq.2.2.2.2.1, ← e2_]; have hv := q30 (by rw [e2_, ← hq.2.2.2.2.1]; exact hq.2.2.2.2.2.2); exact psW_of (y := 30000) (by rw [← hv]; (first | omega | (simp only [Int32.reduceToInt, true_and, and_true, ne_eq, not_true_eq_false, false_and, or_false, false_or, true_or, or_true, false_implies] <;> omega)))) (by omega) (show (gu_up (gu_up G26 0 28 30000) 14 (r7.toInt).toNat ((p3 - (p4 * (p2 + 1))) + (G 0 35))) 21 2 = Gj6 21 2 from (show gu_un ycd [29, 1300, 1400] Gj6 (gu_up (gu_up G26 0 28 30000) 14 (r7.toInt).toNat ((p3 - (p4 * (p2 + 1))) + (G 0 35))) from (gu_un.up (j := 14) (k := (r7.toInt).toNat) (v := ((p3 - (p4 * (p2 + 1))) + (G 0 35))) (gu_un.up (j := 0) (k := 28) (v := 30000) (gu_un.tr (gu_un.tr gu_un.rf (gu_un.su hU20 rfl)) (gu_un.su hU28 rfl)) (show (29 : Nat) ∈ ([29, 1300, 1400] : List Nat) by decide)) (show (1400 : Nat) ∈ ([29, 1300, 1400] : List Nat) by decide))) 21 2 (by decide)), fun A0 B0 C0 D0 h8 h9 => absurd (by omega) h8⟩) (⟨fun q hq => ((show gu_un ycd [29, 1300, 1400] Gj6 (gu_up (gu_up G26 0 28 30000) 14 (r7.toInt).toNat ((p3 - (p4 * (p2 + 1))) + (G 0 35))) from (gu_un.up (j := 14) (k := (r7.toInt).toNat) (v := ((p3 - (p4 * (p2 + 1))) + (G 0 35))) (gu_un.up (j := 0) (k := 28) (v := 30000) (gu_un.tr (gu_un.tr gu_un.rf (gu_un.su hU20 rfl)) (gu_un.su hU28 rfl)) (show (29 : Nat) ∈ ([29, 1300, 1400] : List Nat) by decide)) (show (1400 : Nat) ∈ ([29, 1300, 1400] : List Nat) by decide))) 21 q (by simp [ycd])).trans (nw.1 q hq), fun h9 => ⟨(show (gu_up (gu_up G26 0 28 30000) 14 (r7.toInt).toNat ((p3 - (p4 * (p2 + 1))) + (G 0 35))) 15 = Gj6 15 from funext fun k_ => (show gu_un ycd [29, 1300, 1400] Gj6 (gu_up (gu_up G26 0 28 30000) 14 (r7.toInt).toNat ((p3 - (p4 * (p2 + 1))) + (G 0 35))) from (gu_un.up (j := 14) (k := (r7.toInt).toNat) (v := ((p3 - (p4 * (p2 + 1))) + (G 0 35))) (gu_un.up (j := 0) (k := 28) (v := 30000) (gu_un.tr (gu_un.tr gu_un.rf (gu_un.su hU20 rfl)) (gu_un.su hU28 rfl)) (show (29 : Nat) ∈ ([29, 1300, 1400] : List Nat) by decide)) (show (1400 : Nat) ∈ ([29, 1300, 1400] : List Nat) by decide))) 15 k_ (by simp [ycd])).trans (nw.2 h9).1, (show (gu_up (gu_up G26 0 28 30000) 14 (r7.toInt).toNat ((p3 - (p4 * (p2 + 1))) + (G 0 35))) 16 = Gj6 16 from funext fun k_ => (show gu_un ycd [29, 1300, 1400] Gj6 (gu_up (gu_up G26 0 28 30000) 14 (r7.toInt).toNat ((p3 - (p4 * (p2 + 1))) + (G 0 35))) from (gu_un.up (j := 14) (k := (r7.toInt).toNat) (v := ((p3 - (p4 * (p2 + 1))) + (G 0 35))) (gu_un.up (j := 0) (k := 28) (v := 30000) (gu_un.tr (gu_un.tr gu_un.rf (gu_un.su hU20 rfl)) (gu_un.su hU28 rfl)) (show (29 : Nat) ∈ ([29, 1300, 1400] : List Nat) by decide)) (show (1400 : Nat) ∈ ([29, 1300, 1400] : List Nat) by decide))) 16 k_ (by simp [ycd])).trans (nw.2 h9).2.1, (show (gu_up (gu_up G26 0 28 30000) 14 (r7.toInt).toNat ((p3 - (p4 * (p2 + 1))) + (G 0 35))) 17 = Gj6 17 from funext fun k_ => (show gu_un ycd [29, 1300, 1400] Gj6 (gu_up (gu_up G26 0 28 30000) 14 (r7.toInt).toNat ((p3 - (p4 * (p2 + 1))) + (G 0 35))) from (gu_un.up (j := 14) (k := (r7.toInt).toNat) (v := ((p3 - (p4 * (p2 + 1))) + (G 0 35))) (gu_un.up (j := 0) (k := 28) (v := 30000) (gu_un.tr (gu_un.tr gu_un.rf (gu_un.su hU20 rfl)) (gu_un.su hU28 rfl)) (show (29 : Nat) ∈ ([29, 1300, 1400] : List Nat) by decide)) (show (1400 : Nat) ∈ ([29, 1300, 1400] : List Nat) by decide))) 17 k_ (by simp [ycd])).trans (nw.2 h9).2.2.1, (show (gu_up (gu_up G26 0 28 30000) 14 (r7.toInt).toNat ((p3 - (p4 * (p2 + 1))) + (G 0 35))) 18 = Gj6 18 from funext fun k_ => (show gu_un ycd [29, 1300, 1400] Gj6 (gu_up (gu_up G26 0 28 30000) 14 (r7.toInt).toNat ((p3 - (p4 * (p2 + 1))) + (G 0 35))) from (gu_un.up (j := 14) (k := (r7.toInt).toNat) (v := ((p3 - (p4 * (p2 + 1))) + (G 0 35))) (gu_un.up (j := 0) (k := 28) (v := 30000) (gu_un.tr (gu_un.tr gu_un.rf (gu_un.su hU20 rfl)) (gu_un.su hU28 rfl)) (show (29 : Nat) ∈ ([29, 1300, 1400] : List Nat) by decide)) (show (1400 : Nat) ∈ ([29, 1300, 1400] : List Nat) by decide))) 18 k_ (by simp [ycd])).trans (nw.2 h9).2.2.2⟩⟩) (yOt.bite (pl := y6.toInt) (p := r7.toInt) (a := 0) (b := 0) (c := 0) (d := 0) ot (by omega) (by omega) (by omega) (by omega) (show (gu_up (gu_up G26 0 28 30000) 14 (r7.toInt).toNat ((p3 - (p4 * (p2 + 1))) + (G 0 35))) 14 = (upd (Gj6 14) (r7.toInt).toNat ((p3 - (p4 * (p2 + 1))) + (G 0 35))) from (congrArg (fun f_ => upd f_ (r7.toInt).toNat ((p3 - (p4 * (p2 + 1))) + (G 0 35))) ((show G26 14 = G18 14 from funext fun k_ => hU28 14 k_ (by simp [ycd])).trans (show G18 14 = (Gj6 14) from ((show G18 14 = Gj6 14 from funext fun k_ => hU20 14 k_ (by simp [ycd])).trans (show Gj6 14 = (Gj6 14) from rfl)))))) (Or.inl (show (gu_up (gu_up G26 0 28 30000) 14 (r7.toInt).toNat ((p3 - (p4 * (p2 + 1))) + (G 0 35))) 15 = Gj6 15 from funext fun k_ => (show gu_un ycd [29, 1300, 1400] Gj6 (gu_up (gu_up G26 0 28 30000) 14 (r7.toInt).toNat ((p3 - (p4 * (p2 + 1))) + (G 0 35))) from (gu_un.up (j := 14) (k := (r7.toInt).toNat) (v := ((p3 - (p4 * (p2 + 1))) + (G 0 35))) (gu_un.up (j := 0) (k := 28) (v := 30000) (gu_un.tr (gu_un.tr gu_un.rf (gu_un.su hU20 rfl)) (gu_un.su hU28 rfl)) (show (29 : Nat) ∈ ([29, 1300, 1400] : List Nat) by decide)) (show (1400 : Nat) ∈ ([29, 1300, 1400] : List Nat) by decide))) 15 k_ (by simp [ycd]))) (Or.inl (show (gu_up (gu_up G26 0 28 30000) 14 (r7.toInt).toNat ((p3 - (p4 * (p2 + 1))) + (G 0 35))) 16 = Gj6 16 from funext fun k_ => (show gu_un ycd [29, 1300, 1400] Gj6 (gu_up (gu_up G26 0 28 30000) 14 (r7.toInt).toNat ((p3 - (p4 * (p2 + 1))) + (G 0 35))) from (gu_un.up (j := 14) (k := (r7.toInt).toNat) (v := ((p3 - (p4 * (p2 + 1))) + (G 0 35))) (gu_un.up (j := 0) (k := 28) (v := 30000) (gu_un.tr (gu_un.tr gu_un.rf (gu_un.su hU20 rfl)) (gu_un.su hU28 rfl)) (show (29 : Nat) ∈ ([29, 1300, 1400] : List Nat) by decide)) (show (1400 : Nat) ∈ ([29, 1300, 1400] : List Nat) by decide))) 16 k_ (by simp [ycd]))) (Or.inl (show (gu_up (gu_up G26 0 28 30000) 14 (r7.toInt).toNat ((p3 - (p4 * (p2 + 1))) + (G 0 35))) 17 = Gj6 17 from funext fun k_ => (show gu_un ycd [29, 1300, 1400] Gj6 (gu_up (gu_up G26 0 28 30000) 14 (r7.toInt).toNat ((p3 - (p4 * (p2 + 1))) + (G 0 35))) from (gu_un.up (j := 14) (k := (r7.toInt).toNat) (v := ((p3 - (p4 * (p2 + 1))) + (G 0 35))) (gu_un.up (j := 0) (k := 28) (v := 30000) (gu_un.tr (gu_un.tr gu_un.rf (gu_un.su hU20 rfl)) (gu_un.su hU28 rfl)) (show (29 : Nat) ∈ ([29, 1300, 1400] : List Nat) by decide)) (show (1400 : Nat) ∈ ([29, 1300, 1400] : List Nat) by decide))) 17 k_ (by simp [ycd]))) (Or.inl (show (gu_up (gu_up G26 0 28 30000) 14 (r7.toInt).toNat ((p3 - (p4 * (p2 + 1))) + (G 0 35))) 18 = Gj6 18 from funext fun k_ => (show gu_un ycd [29, 1300, 1400] Gj6 (gu_up (gu_up G26 0 28 30000) 14 (r7.toInt).toNat ((p3 - (p4 * (p2 + 1))) + (G 0 35))) from (gu_un.up (j := 14) (k := (r7.toInt).toNat) (v := ((p3 - (p4 * (p2 + 1))) + (G 0 35))) (gu_un.up (j := 0) (k := 28) (v := 30000) (gu_un.tr (gu_un.tr gu_un.rf (gu_un.su hU20 rfl)) (gu_un.su hU28 rfl)) (show (29 : Nat) ∈ ([29, 1300, 1400] : List Nat) by decide)) (show (1400 : Nat) ∈ ([29, 1300, 1400] : List Nat) by decide))) 18 k_ (by simp [ycd])))) (by have e9_3_10 : (gu_up (gu_up G26 0 28 30000) 14 (r7.toInt).toNat ((p3 - (p4 * (p2 + 1))) + (G 0 35))) 3 10 = (G 3 10) := (hU28 3 10 (by decide)).trans ((hU20 3 10 (by decide)).trans (jU6 3 10 (by decide))); (try simp only [e9_3_10, true_and, and_true]) <;> (first | omega | (simp only [Int32.reduceToInt, true_and, and_true, ne_eq, not_true_eq_false, false_and, or_false, false_or, true_or, or_true, false_implies] <;> omega))) (by (first | omega | (simp only [Int32.reduceToInt, true_and, and_true, ne_eq, not_true_eq_false, false_and, or_false, false_or, true_or, or_true, false_implies] <;> omega)))
        · refine g_aload_n F 3 dX13_teethAt_73 rfl rfl ?_
          refine yg_0_33 F i_X13 w_13 dX13_teethAt_74 ?_
          refine g_iconst F 2 dX13_teethAt_77 (by decide) ?_
          refine g_dup2 F dX13_teethAt_78 rfl rfl ?_
          refine u1_iald F 21 0 yc_21 rfl 2 rfl (by decide) (by decide) dX13_teethAt_79 (Gj6 21 2) (rfl) ?_
          refine g_iconst F 1 dX13_teethAt_80 (by decide) ?_
          refine g_iadd F dX13_teethAt_81 ?_
          refine u_iast F 21 0 yc_21 rfl 2 rfl (by decide) (by decide) (yW K a (gu_up Gj6 21 2 ((Gj6 21 2) + 1))) (ys_21 _) dX13_teethAt_82 ?_
          refine g_goto F 200 dX13_teethAt_83 (by decide) ?_
          refine u_iinc F (fun v_ => [(8, .int v_), (11, .int (((Gj6 14) ((16 * s0 + y6.toInt)).toNat) - ((p3 - (p4 * (p2 + 1))) + (G 0 35)))), (10, .int ((p3 - (p4 * (p2 + 1))) + (G 0 35))), (9, .int r7), (0, .ref (a 0)), (1, .int p0), (2, .int p1), (3, .int p2), (4, .int p3), (5, .int p4), (6, .int p5), (7, .int x6_7)]) dX13_teethAt_200 (j := 11) rfl x6_8.toInt 1 rfl rfl (by omega) (by omega) (by decide) (fun _ => rfl) (fun y42 ey42 => ?_)
          refine g_goto F 6 dX13_teethAt_203 (by decide) ?_
          refine g_locals [(0, .ref (a 0)), (1, .int p0), (2, .int p1), (3, .int p2), (4, .int p3), (5, .int p4), (6, .int p5), (7, .int x6_7), (8, .int y42)] [4, 5, 6, 7, 8, 9, 10, 11, 0] rfl ?_
          exact ih_6 x6_7 y42 (gu_up Gj6 21 2 ((Gj6 21 2) + 1)) (by omega) (by have h9 := ti_rng x6_7; omega) (by have h9 := ti_rng y42; omega) (gu_I.up (j := 21) (k := 2) (v := ((Gj6 21 2) + 1)) jI6 (ti_rng _).1 (ti_rng _).2) (gu_un.up (j := 21) (k := 2) (v := ((Gj6 21 2) + 1)) (gu_un.tr gu_un.rf (gu_un.su jU6 rfl)) (show (2100 : Nat) ∈ ([29, 1300, 1400, 1500, 1600, 1700, 1800, 2100] : List Nat) by decide)) (fun Q S C hq hs => by obtain ⟨h1, h2⟩ := yt Q S C hq hs; have hp := psP_of (Q := Q) (i := s1) (k := (x6_8.toInt).toNat) (t := G 5 (x6_8.toInt).toNat) (s := G 3 0) ey6.2.2.2 (by omega) rfl (hq.2.1 _ (by omega)) hq.1; have hcut : ((p3 - (p4 * (p2 + 1))) + (G 0 35)) = psF Q p2 + (G 0 35) := (by rw [hq.2.2.1]); have hc := pR.chp (chip := (((Gj6 14) ((16 * s0 + y6.toInt)).toNat) - ((p3 - (p4 * (p2 + 1))) + (G 0 35)))) h1 hp (by omega) hcut (by unfold yHr; rw [show 16 * s0 + (((y6.toInt).toNat : Nat) : Int) = 16 * s0 + y6.toInt by omega]); exact ⟨pR.out h1 hc (by omega) rfl (by omega), fun A0 B0 C0 D0 h8 h9 => yLf.out (h2 A0 B0 C0 D0 h8 h9) hc (by omega) (by omega)⟩) (⟨fun q hq => by show upd (Gj6 21) 2 _ q = _; rw [show upd (Gj6 21) 2 _ q = Gj6 21 q from if_neg hq]; exact nw.1 q hq, nw.2⟩) (yOt.tr ot (yOt.un (show gu_un ycd [2100] Gj6 (gu_up Gj6 21 2 ((Gj6 21 2) + 1)) from (gu_un.up (j := 21) (k := 2) (v := ((Gj6 21 2) + 1)) gu_un.rf (show (2100 : Nat) ∈ ([2100] : List Nat) by decide))) rfl)) (by have e9_3_10 : (gu_up Gj6 21 2 ((Gj6 21 2) + 1)) 3 10 = (G 3 10) := jU6 3 10 (by decide); (try simp only [e9_3_10, true_and, and_true]) <;> (first | omega | (simp only [Int32.reduceToInt, true_and, and_true, ne_eq, not_true_eq_false, false_and, or_false, false_or, true_or, or_true, false_implies] <;> omega))) (by (first | omega | (simp only [Int32.reduceToInt, true_and, and_true, ne_eq, not_true_eq_false, false_and, or_false, false_or, true_or, or_true, false_implies] <;> omega)))
  refine g_iconst F 0 dX13_teethAt_0 (by decide) ?_
  refine g_istore F [(7, .int 0), (0, .ref (a 0)), (1, .int p0), (2, .int p1), (3, .int p2), (4, .int p3), (5, .int p4), (6, .int p5)] dX13_teethAt_1 (by decide) rfl ?_
  refine g_iconst F 0 dX13_teethAt_3 (by decide) ?_
  refine g_istore F [(8, .int 0), (7, .int 0), (0, .ref (a 0)), (1, .int p0), (2, .int p1), (3, .int p2), (4, .int p3), (5, .int p4), (6, .int p5)] dX13_teethAt_4 (by decide) rfl ?_
  refine g_locals [(0, .ref (a 0)), (1, .int p0), (2, .int p1), (3, .int p2), (4, .int p3), (5, .int p4), (6, .int p5), (7, .int 0), (8, .int 0)] [2, 3, 4, 5, 6, 7, 8, 1, 0] rfl ?_
  exact J_6 _ 0 0 G (Nat.lt_succ_self _) (by decide) (by decide) hI gu_un.rf (fun Q S C hq hs => ⟨hs, fun _ _ _ _ _ h9 => h9⟩) (⟨fun _ _ => rfl, fun _ => ⟨rfl, rfl, rfl, rfl⟩⟩) (yOt.rf) (by (first | omega | (simp only [Int32.reduceToInt, true_and, and_true, ne_eq, not_true_eq_false, false_and, or_false, false_or, true_or, or_true, false_implies] <;> omega))) (by (first | omega | (simp only [Int32.reduceToInt, true_and, and_true, ne_eq, not_true_eq_false, false_and, or_false, false_or, true_or, or_true, false_implies] <;> omega)))

theorem dX13_go_0 : decode cX13_go 0 = .ok (.aload_n 0, 1) := by decide +kernel
theorem dX13_go_1 : decode cX13_go 1 = .ok (.iload_n 1, 1) := by decide +kernel
theorem dX13_go_2 : decode cX13_go 2 = .ok (.invokevirtual 385, 3) := by decide +kernel
theorem dX13_go_5 : decode cX13_go 5 = .ok (.istore 8, 2) := by decide +kernel
theorem dX13_go_7 : decode cX13_go 7 = .ok (.aload_n 0, 1) := by decide +kernel
theorem dX13_go_8 : decode cX13_go 8 = .ok (.iload_n 1, 1) := by decide +kernel
theorem dX13_go_9 : decode cX13_go 9 = .ok (.invokevirtual 397, 3) := by decide +kernel
theorem dX13_go_12 : decode cX13_go 12 = .ok (.istore 9, 2) := by decide +kernel
theorem dX13_go_14 : decode cX13_go 14 = .ok (.aload_n 0, 1) := by decide +kernel
theorem dX13_go_15 : decode cX13_go 15 = .ok (.getfield 199, 3) := by decide +kernel
theorem dX13_go_18 : decode cX13_go 18 = .ok (.iconst 0, 1) := by decide +kernel
theorem dX13_go_19 : decode cX13_go 19 = .ok (.iaload, 1) := by decide +kernel
theorem dX13_go_20 : decode cX13_go 20 = .ok (.istore 10, 2) := by decide +kernel
theorem dX13_go_22 : decode cX13_go 22 = .ok (.iconst 0, 1) := by decide +kernel
theorem dX13_go_23 : decode cX13_go 23 = .ok (.istore 11, 2) := by decide +kernel
theorem dX13_go_25 : decode cX13_go 25 = .ok (.iload 11, 2) := by decide +kernel
theorem dX13_go_27 : decode cX13_go 27 = .ok (.bipush 7, 2) := by decide +kernel
theorem dX13_go_29 : decode cX13_go 29 = .ok (.if_icmp .ge 17, 3) := by decide +kernel
theorem dX13_go_32 : decode cX13_go 32 = .ok (.aload_n 0, 1) := by decide +kernel
theorem dX13_go_33 : decode cX13_go 33 = .ok (.getfield 235, 3) := by decide +kernel
theorem dX13_go_36 : decode cX13_go 36 = .ok (.iload 11, 2) := by decide +kernel
theorem dX13_go_38 : decode cX13_go 38 = .ok (.iconst 0, 1) := by decide +kernel
theorem dX13_go_39 : decode cX13_go 39 = .ok (.iastore, 1) := by decide +kernel
theorem dX13_go_40 : decode cX13_go 40 = .ok (.iinc 11 1, 3) := by decide +kernel
theorem dX13_go_43 : decode cX13_go 43 = .ok (.goto (-18), 3) := by decide +kernel
theorem dX13_go_46 : decode cX13_go 46 = .ok (.aload_n 0, 1) := by decide +kernel
theorem dX13_go_47 : decode cX13_go 47 = .ok (.iconst 0, 1) := by decide +kernel
theorem dX13_go_48 : decode cX13_go 48 = .ok (.putfield 392, 3) := by decide +kernel
theorem dX13_go_51 : decode cX13_go 51 = .ok (.aload_n 0, 1) := by decide +kernel
theorem dX13_go_52 : decode cX13_go 52 = .ok (.iconst 0, 1) := by decide +kernel
theorem dX13_go_53 : decode cX13_go 53 = .ok (.putfield 400, 3) := by decide +kernel
theorem dX13_go_56 : decode cX13_go 56 = .ok (.iconst 0, 1) := by decide +kernel
theorem dX13_go_57 : decode cX13_go 57 = .ok (.istore 11, 2) := by decide +kernel
theorem dX13_go_59 : decode cX13_go 59 = .ok (.iconst 0, 1) := by decide +kernel
theorem dX13_go_60 : decode cX13_go 60 = .ok (.istore 12, 2) := by decide +kernel
theorem dX13_go_62 : decode cX13_go 62 = .ok (.iload 12, 2) := by decide +kernel
theorem dX13_go_64 : decode cX13_go 64 = .ok (.iload 10, 2) := by decide +kernel
theorem dX13_go_66 : decode cX13_go 66 = .ok (.iload 4, 2) := by decide +kernel
theorem dX13_go_68 : decode cX13_go 68 = .ok (.imul, 1) := by decide +kernel
theorem dX13_go_69 : decode cX13_go 69 = .ok (.if_icmp .ge 225, 3) := by decide +kernel
theorem dX13_go_72 : decode cX13_go 72 = .ok (.iload 11, 2) := by decide +kernel
theorem dX13_go_74 : decode cX13_go 74 = .ok (.ifCond .ne 220, 3) := by decide +kernel
theorem dX13_go_77 : decode cX13_go 77 = .ok (.aload_n 0, 1) := by decide +kernel
theorem dX13_go_78 : decode cX13_go 78 = .ok (.getfield 235, 3) := by decide +kernel
theorem dX13_go_81 : decode cX13_go 81 = .ok (.bipush 6, 2) := by decide +kernel
theorem dX13_go_83 : decode cX13_go 83 = .ok (.iload 12, 2) := by decide +kernel
theorem dX13_go_85 : decode cX13_go 85 = .ok (.iload 10, 2) := by decide +kernel
theorem dX13_go_87 : decode cX13_go 87 = .ok (.idiv, 1) := by decide +kernel
theorem dX13_go_88 : decode cX13_go 88 = .ok (.iconst 1, 1) := by decide +kernel
theorem dX13_go_89 : decode cX13_go 89 = .ok (.iadd, 1) := by decide +kernel
theorem dX13_go_90 : decode cX13_go 90 = .ok (.iastore, 1) := by decide +kernel
theorem dX13_go_91 : decode cX13_go 91 = .ok (.aload_n 0, 1) := by decide +kernel
theorem dX13_go_92 : decode cX13_go 92 = .ok (.iload_n 1, 1) := by decide +kernel
theorem dX13_go_93 : decode cX13_go 93 = .ok (.iload 12, 2) := by decide +kernel
theorem dX13_go_95 : decode cX13_go 95 = .ok (.iload 10, 2) := by decide +kernel
theorem dX13_go_97 : decode cX13_go 97 = .ok (.irem, 1) := by decide +kernel
theorem dX13_go_98 : decode cX13_go 98 = .ok (.iload 12, 2) := by decide +kernel
theorem dX13_go_100 : decode cX13_go 100 = .ok (.iload 10, 2) := by decide +kernel
theorem dX13_go_102 : decode cX13_go 102 = .ok (.idiv, 1) := by decide +kernel
theorem dX13_go_103 : decode cX13_go 103 = .ok (.iload 8, 2) := by decide +kernel
theorem dX13_go_105 : decode cX13_go 105 = .ok (.iload_n 3, 1) := by decide +kernel
theorem dX13_go_106 : decode cX13_go 106 = .ok (.iload 7, 2) := by decide +kernel
theorem dX13_go_108 : decode cX13_go 108 = .ok (.invokevirtual 403, 3) := by decide +kernel
theorem dX13_go_111 : decode cX13_go 111 = .ok (.istore 13, 2) := by decide +kernel
theorem dX13_go_113 : decode cX13_go 113 = .ok (.iload 5, 2) := by decide +kernel
theorem dX13_go_115 : decode cX13_go 115 = .ok (.aload_n 0, 1) := by decide +kernel
theorem dX13_go_116 : decode cX13_go 116 = .ok (.aload_n 0, 1) := by decide +kernel
theorem dX13_go_117 : decode cX13_go 117 = .ok (.getfield 214, 3) := by decide +kernel
theorem dX13_go_120 : decode cX13_go 120 = .ok (.iload_n 1, 1) := by decide +kernel
theorem dX13_go_121 : decode cX13_go 121 = .ok (.iload 12, 2) := by decide +kernel
theorem dX13_go_123 : decode cX13_go 123 = .ok (.iload 10, 2) := by decide +kernel
theorem dX13_go_125 : decode cX13_go 125 = .ok (.irem, 1) := by decide +kernel
theorem dX13_go_126 : decode cX13_go 126 = .ok (.invokestatic 378, 3) := by decide +kernel
theorem dX13_go_129 : decode cX13_go 129 = .ok (.iaload, 1) := by decide +kernel
theorem dX13_go_130 : decode cX13_go 130 = .ok (.iload 9, 2) := by decide +kernel
theorem dX13_go_132 : decode cX13_go 132 = .ok (.invokevirtual 407, 3) := by decide +kernel
theorem dX13_go_135 : decode cX13_go 135 = .ok (.iadd, 1) := by decide +kernel
theorem dX13_go_136 : decode cX13_go 136 = .ok (.istore 14, 2) := by decide +kernel
theorem dX13_go_138 : decode cX13_go 138 = .ok (.iload_n 2, 1) := by decide +kernel
theorem dX13_go_139 : decode cX13_go 139 = .ok (.aload_n 0, 1) := by decide +kernel
theorem dX13_go_140 : decode cX13_go 140 = .ok (.getfield 204, 3) := by decide +kernel
theorem dX13_go_143 : decode cX13_go 143 = .ok (.iload 12, 2) := by decide +kernel
theorem dX13_go_145 : decode cX13_go 145 = .ok (.aload_n 0, 1) := by decide +kernel
theorem dX13_go_146 : decode cX13_go 146 = .ok (.getfield 199, 3) := by decide +kernel
theorem dX13_go_149 : decode cX13_go 149 = .ok (.bipush 11, 2) := by decide +kernel
theorem dX13_go_151 : decode cX13_go 151 = .ok (.iaload, 1) := by decide +kernel
theorem dX13_go_152 : decode cX13_go 152 = .ok (.irem, 1) := by decide +kernel
theorem dX13_go_153 : decode cX13_go 153 = .ok (.iaload, 1) := by decide +kernel
theorem dX13_go_154 : decode cX13_go 154 = .ok (.iadd, 1) := by decide +kernel
theorem dX13_go_155 : decode cX13_go 155 = .ok (.istore 15, 2) := by decide +kernel
theorem dX13_go_157 : decode cX13_go 157 = .ok (.iload 15, 2) := by decide +kernel
theorem dX13_go_159 : decode cX13_go 159 = .ok (.ifCond .le 129, 3) := by decide +kernel
theorem dX13_go_162 : decode cX13_go 162 = .ok (.iload 11, 2) := by decide +kernel
theorem dX13_go_164 : decode cX13_go 164 = .ok (.ifCond .ne 124, 3) := by decide +kernel
theorem dX13_go_167 : decode cX13_go 167 = .ok (.aload_n 0, 1) := by decide +kernel
theorem dX13_go_168 : decode cX13_go 168 = .ok (.dup, 1) := by decide +kernel
theorem dX13_go_169 : decode cX13_go 169 = .ok (.getfield 400, 3) := by decide +kernel
theorem dX13_go_172 : decode cX13_go 172 = .ok (.iload 13, 2) := by decide +kernel
theorem dX13_go_174 : decode cX13_go 174 = .ok (.iload 14, 2) := by decide +kernel
theorem dX13_go_176 : decode cX13_go 176 = .ok (.aload_n 0, 1) := by decide +kernel
theorem dX13_go_177 : decode cX13_go 177 = .ok (.getfield 392, 3) := by decide +kernel
theorem dX13_go_180 : decode cX13_go 180 = .ok (.imul, 1) := by decide +kernel
theorem dX13_go_181 : decode cX13_go 181 = .ok (.isub, 1) := by decide +kernel
theorem dX13_go_182 : decode cX13_go 182 = .ok (.iload 6, 2) := by decide +kernel
theorem dX13_go_184 : decode cX13_go 184 = .ok (.aload_n 0, 1) := by decide +kernel
theorem dX13_go_185 : decode cX13_go 185 = .ok (.getfield 400, 3) := by decide +kernel
theorem dX13_go_188 : decode cX13_go 188 = .ok (.imul, 1) := by decide +kernel
theorem dX13_go_189 : decode cX13_go 189 = .ok (.isub, 1) := by decide +kernel
theorem dX13_go_190 : decode cX13_go 190 = .ok (.aload_n 0, 1) := by decide +kernel
theorem dX13_go_191 : decode cX13_go 191 = .ok (.getfield 199, 3) := by decide +kernel
theorem dX13_go_194 : decode cX13_go 194 = .ok (.iconst 2, 1) := by decide +kernel
theorem dX13_go_195 : decode cX13_go 195 = .ok (.iaload, 1) := by decide +kernel
theorem dX13_go_196 : decode cX13_go 196 = .ok (.idiv, 1) := by decide +kernel
theorem dX13_go_197 : decode cX13_go 197 = .ok (.iadd, 1) := by decide +kernel
theorem dX13_go_198 : decode cX13_go 198 = .ok (.putfield 400, 3) := by decide +kernel
theorem dX13_go_201 : decode cX13_go 201 = .ok (.aload_n 0, 1) := by decide +kernel
theorem dX13_go_202 : decode cX13_go 202 = .ok (.dup, 1) := by decide +kernel
theorem dX13_go_203 : decode cX13_go 203 = .ok (.getfield 392, 3) := by decide +kernel
theorem dX13_go_206 : decode cX13_go 206 = .ok (.aload_n 0, 1) := by decide +kernel
theorem dX13_go_207 : decode cX13_go 207 = .ok (.getfield 400, 3) := by decide +kernel
theorem dX13_go_210 : decode cX13_go 210 = .ok (.iadd, 1) := by decide +kernel
theorem dX13_go_211 : decode cX13_go 211 = .ok (.putfield 392, 3) := by decide +kernel
theorem dX13_go_214 : decode cX13_go 214 = .ok (.aload_n 0, 1) := by decide +kernel
theorem dX13_go_215 : decode cX13_go 215 = .ok (.getfield 235, 3) := by decide +kernel
theorem dX13_go_218 : decode cX13_go 218 = .ok (.iconst 1, 1) := by decide +kernel
theorem dX13_go_219 : decode cX13_go 219 = .ok (.dup2, 1) := by decide +kernel
theorem dX13_go_220 : decode cX13_go 220 = .ok (.iaload, 1) := by decide +kernel
theorem dX13_go_221 : decode cX13_go 221 = .ok (.iconst 1, 1) := by decide +kernel
theorem dX13_go_222 : decode cX13_go 222 = .ok (.iadd, 1) := by decide +kernel
theorem dX13_go_223 : decode cX13_go 223 = .ok (.iastore, 1) := by decide +kernel
theorem dX13_go_224 : decode cX13_go 224 = .ok (.aload_n 0, 1) := by decide +kernel
theorem dX13_go_225 : decode cX13_go 225 = .ok (.getfield 235, 3) := by decide +kernel
theorem dX13_go_228 : decode cX13_go 228 = .ok (.iconst 3, 1) := by decide +kernel
theorem dX13_go_229 : decode cX13_go 229 = .ok (.aload_n 0, 1) := by decide +kernel
theorem dX13_go_230 : decode cX13_go 230 = .ok (.getfield 235, 3) := by decide +kernel
theorem dX13_go_233 : decode cX13_go 233 = .ok (.iconst 3, 1) := by decide +kernel
theorem dX13_go_234 : decode cX13_go 234 = .ok (.iaload, 1) := by decide +kernel
theorem dX13_go_235 : decode cX13_go 235 = .ok (.aload_n 0, 1) := by decide +kernel
theorem dX13_go_236 : decode cX13_go 236 = .ok (.getfield 392, 3) := by decide +kernel
theorem dX13_go_239 : decode cX13_go 239 = .ok (.invokestatic 409, 3) := by decide +kernel
theorem dX13_go_242 : decode cX13_go 242 = .ok (.invokestatic 152, 3) := by decide +kernel
theorem dX13_go_245 : decode cX13_go 245 = .ok (.iastore, 1) := by decide +kernel
theorem dX13_go_246 : decode cX13_go 246 = .ok (.aload_n 0, 1) := by decide +kernel
theorem dX13_go_247 : decode cX13_go 247 = .ok (.getfield 392, 3) := by decide +kernel
theorem dX13_go_250 : decode cX13_go 250 = .ok (.aload_n 0, 1) := by decide +kernel
theorem dX13_go_251 : decode cX13_go 251 = .ok (.getfield 199, 3) := by decide +kernel
theorem dX13_go_254 : decode cX13_go 254 = .ok (.bipush 7, 2) := by decide +kernel
theorem dX13_go_256 : decode cX13_go 256 = .ok (.iaload, 1) := by decide +kernel
theorem dX13_go_257 : decode cX13_go 257 = .ok (.if_icmp .gt 18, 3) := by decide +kernel
theorem dX13_go_260 : decode cX13_go 260 = .ok (.aload_n 0, 1) := by decide +kernel
theorem dX13_go_261 : decode cX13_go 261 = .ok (.getfield 392, 3) := by decide +kernel
theorem dX13_go_264 : decode cX13_go 264 = .ok (.aload_n 0, 1) := by decide +kernel
theorem dX13_go_265 : decode cX13_go 265 = .ok (.getfield 199, 3) := by decide +kernel
theorem dX13_go_268 : decode cX13_go 268 = .ok (.bipush 7, 2) := by decide +kernel
theorem dX13_go_270 : decode cX13_go 270 = .ok (.iaload, 1) := by decide +kernel
theorem dX13_go_271 : decode cX13_go 271 = .ok (.ineg, 1) := by decide +kernel
theorem dX13_go_272 : decode cX13_go 272 = .ok (.if_icmp .ge 7, 3) := by decide +kernel
theorem dX13_go_275 : decode cX13_go 275 = .ok (.iconst 1, 1) := by decide +kernel
theorem dX13_go_276 : decode cX13_go 276 = .ok (.goto 4, 3) := by decide +kernel
theorem dX13_go_279 : decode cX13_go 279 = .ok (.iconst 0, 1) := by decide +kernel
theorem dX13_go_280 : decode cX13_go 280 = .ok (.istore 11, 2) := by decide +kernel
theorem dX13_go_282 : decode cX13_go 282 = .ok (.iinc 15 (-1), 3) := by decide +kernel
theorem dX13_go_285 : decode cX13_go 285 = .ok (.goto (-128), 3) := by decide +kernel
theorem dX13_go_288 : decode cX13_go 288 = .ok (.iinc 12 1, 3) := by decide +kernel
theorem dX13_go_291 : decode cX13_go 291 = .ok (.goto (-229), 3) := by decide +kernel
theorem dX13_go_294 : decode cX13_go 294 = .ok (.aload_n 0, 1) := by decide +kernel
theorem dX13_go_295 : decode cX13_go 295 = .ok (.getfield 235, 3) := by decide +kernel
theorem dX13_go_298 : decode cX13_go 298 = .ok (.iconst 0, 1) := by decide +kernel
theorem dX13_go_299 : decode cX13_go 299 = .ok (.aload_n 0, 1) := by decide +kernel
theorem dX13_go_300 : decode cX13_go 300 = .ok (.iload_n 1, 1) := by decide +kernel
theorem dX13_go_301 : decode cX13_go 301 = .ok (.invokevirtual 385, 3) := by decide +kernel
theorem dX13_go_304 : decode cX13_go 304 = .ok (.aload_n 0, 1) := by decide +kernel
theorem dX13_go_305 : decode cX13_go 305 = .ok (.iload_n 1, 1) := by decide +kernel
theorem dX13_go_306 : decode cX13_go 306 = .ok (.invokevirtual 388, 3) := by decide +kernel
theorem dX13_go_309 : decode cX13_go 309 = .ok (.isub, 1) := by decide +kernel
theorem dX13_go_310 : decode cX13_go 310 = .ok (.iastore, 1) := by decide +kernel
theorem dX13_go_311 : decode cX13_go 311 = .ok (.aload_n 0, 1) := by decide +kernel
theorem dX13_go_312 : decode cX13_go 312 = .ok (.getfield 235, 3) := by decide +kernel
theorem dX13_go_315 : decode cX13_go 315 = .ok (.iconst 4, 1) := by decide +kernel
theorem dX13_go_316 : decode cX13_go 316 = .ok (.aload_n 0, 1) := by decide +kernel
theorem dX13_go_317 : decode cX13_go 317 = .ok (.getfield 392, 3) := by decide +kernel
theorem dX13_go_320 : decode cX13_go 320 = .ok (.iastore, 1) := by decide +kernel
theorem dX13_go_321 : decode cX13_go 321 = .ok (.aload_n 0, 1) := by decide +kernel
theorem dX13_go_322 : decode cX13_go 322 = .ok (.getfield 235, 3) := by decide +kernel
theorem dX13_go_325 : decode cX13_go 325 = .ok (.iconst 5, 1) := by decide +kernel
theorem dX13_go_326 : decode cX13_go 326 = .ok (.aload_n 0, 1) := by decide +kernel
theorem dX13_go_327 : decode cX13_go 327 = .ok (.getfield 362, 3) := by decide +kernel
theorem dX13_go_330 : decode cX13_go 330 = .ok (.iastore, 1) := by decide +kernel
theorem dX13_go_331 : decode cX13_go 331 = .ok (.iload 11, 2) := by decide +kernel
theorem dX13_go_333 : decode cX13_go 333 = .ok (.ifCond .eq 7, 3) := by decide +kernel
theorem dX13_go_336 : decode cX13_go 336 = .ok (.iconst 2, 1) := by decide +kernel
theorem dX13_go_337 : decode cX13_go 337 = .ok (.goto 24, 3) := by decide +kernel
theorem dX13_go_340 : decode cX13_go 340 = .ok (.aload_n 0, 1) := by decide +kernel
theorem dX13_go_341 : decode cX13_go 341 = .ok (.getfield 235, 3) := by decide +kernel
theorem dX13_go_344 : decode cX13_go 344 = .ok (.iconst 0, 1) := by decide +kernel
theorem dX13_go_345 : decode cX13_go 345 = .ok (.iaload, 1) := by decide +kernel
theorem dX13_go_346 : decode cX13_go 346 = .ok (.aload_n 0, 1) := by decide +kernel
theorem dX13_go_347 : decode cX13_go 347 = .ok (.getfield 199, 3) := by decide +kernel
theorem dX13_go_350 : decode cX13_go 350 = .ok (.bipush 8, 2) := by decide +kernel
theorem dX13_go_352 : decode cX13_go 352 = .ok (.iaload, 1) := by decide +kernel
theorem dX13_go_353 : decode cX13_go 353 = .ok (.if_icmp .le 7, 3) := by decide +kernel
theorem dX13_go_356 : decode cX13_go 356 = .ok (.iconst 1, 1) := by decide +kernel
theorem dX13_go_357 : decode cX13_go 357 = .ok (.goto 4, 3) := by decide +kernel
theorem dX13_go_360 : decode cX13_go 360 = .ok (.iconst 0, 1) := by decide +kernel
theorem dX13_go_361 : decode cX13_go 361 = .ok (.ireturn, 1) := by decide +kernel
set_option maxRecDepth 20000 in
theorem ggX13_go_X13_at : GoodIn wsX13_go wsX13_at := goodIn_r _ [22] rfl (by decide +kernel)
set_option maxRecDepth 20000 in
theorem gX13_go_X13_at : GoodIn wsX13_go (va_wsS RX13 378 yX13_at wsX13_at) := goodIn_app (goodIn_of _ (by decide +kernel)) ggX13_go_X13_at
set_option maxRecDepth 20000 in
theorem ggX13_go_X13_gapOf : GoodIn wsX13_go wsX13_gapOf := goodIn_r _ [26, 1, 27, 28, 29, 9, 30, 15, 16, 17, 18, 19, 5, 11, 12, 13, 20, 21, 22, 31, 32, 33, 34, 63, 64, 65, 66, 67, 68, 69, 70, 71, 72, 73, 74, 75, 76, 77, 78, 79, 80, 81, 82, 83, 84, 85, 86, 87, 88, 89, 90, 91, 92, 93, 94, 95, 96, 97, 98, 99, 100, 101, 102, 103, 104, 105, 106, 107, 108, 109, 110, 111, 112, 113, 114, 115, 116, 117, 118, 119, 120, 121, 122, 123, 124, 125, 126, 127, 128, 129, 130, 131, 132, 133, 134, 135] rfl (by decide +kernel)
set_option maxRecDepth 20000 in
theorem gX13_go_X13_gapOf : GoodIn wsX13_go (wsV RX13 397 RX13 yX13_gapOf wsX13_gapOf) := goodIn_app (goodIn_of _ (by decide +kernel)) ggX13_go_X13_gapOf
set_option maxRecDepth 20000 in
theorem ggX13_go_X13_least : GoodIn wsX13_go wsX13_least := goodIn_r _ [34, 5, 1, 28, 29, 9, 30, 20, 21, 18, 22, 63, 64, 65, 66, 67, 68, 69, 70, 71, 72, 73, 74, 75, 76, 77, 78, 79, 80, 81, 82, 83, 84, 85, 86, 87, 88, 89, 90, 91, 92, 93, 94, 95, 96, 97, 98, 99, 100, 101, 102, 103, 104, 105, 106, 107, 108, 109, 110, 111, 112, 113, 114, 115, 116, 117, 118, 119, 120, 121, 122, 123, 124, 125, 126, 127, 128, 129, 130, 131, 132, 133, 134, 135] rfl (by decide +kernel)
set_option maxRecDepth 20000 in
theorem gX13_go_X13_least : GoodIn wsX13_go (wsV RX13 388 RX13 yX13_least wsX13_least) := goodIn_app (goodIn_of _ (by decide +kernel)) ggX13_go_X13_least
set_option maxRecDepth 20000 in
theorem ggX13_go_X13_most : GoodIn wsX13_go wsX13_most := goodIn_r _ [19, 5, 1, 11, 12, 9, 13, 20, 21, 18, 22, 63, 64, 65, 66, 67, 68, 69, 70, 71, 72, 73, 74, 75, 76, 77, 78, 79, 80, 81, 82, 83, 84, 85, 86, 87, 88, 89, 90, 91, 92, 93, 94, 95, 96, 97, 98, 99, 100, 101, 102, 103, 104, 105, 106, 107, 108, 109, 110, 111, 112, 113, 114, 115, 116, 117, 118, 119, 120, 121, 122, 123, 124, 125, 126, 127, 128, 129, 130, 131, 132, 133, 134, 135] rfl (by decide +kernel)
set_option maxRecDepth 20000 in
theorem gX13_go_X13_most : GoodIn wsX13_go (wsV RX13 385 RX13 yX13_most wsX13_most) := goodIn_app (goodIn_of _ (by decide +kernel)) ggX13_go_X13_most
set_option maxRecDepth 20000 in
theorem ggX13_go_X13_teethAt : GoodIn wsX13_go wsX13_teethAt := goodIn_r _ [38, 1, 39, 3, 5, 2, 14, 11, 12, 9, 13, 40, 41, 42, 43, 20, 21, 18, 22, 44, 45, 46, 47, 28, 29, 30, 48, 49, 50, 51, 52, 53, 54, 55, 56, 57, 58, 63, 64, 65, 66, 67, 68, 69, 70, 71, 72, 73, 74, 75, 76, 77, 78, 79, 80, 81, 82, 83, 84, 85, 86, 87, 88, 89, 90, 91, 92, 93, 94, 95, 96, 97, 98, 99, 100, 101, 102, 103, 104, 105, 106, 107, 108, 109, 110, 111, 112, 113, 114, 115, 116, 117, 118, 119, 120, 121, 122, 123, 124, 125, 126, 127, 128, 129, 130, 131, 132, 133, 134, 135] rfl (by decide +kernel)
set_option maxRecDepth 20000 in
theorem gX13_go_X13_teethAt : GoodIn wsX13_go (wsV RX13 403 RX13 yX13_teethAt wsX13_teethAt) := goodIn_app (goodIn_of _ (by decide +kernel)) ggX13_go_X13_teethAt
set_option maxRecDepth 20000 in
theorem ggX13_go_X13_wall : GoodIn wsX13_go wsX13_wall := goodIn_r _ [62, 28, 29, 9, 30, 11, 12, 13, 48, 49, 50, 18, 51, 52, 53, 54, 55, 56, 57, 58, 63, 64, 65, 66, 67, 68, 69, 70, 71, 72, 73, 74, 75, 76, 77, 78, 79, 80, 81, 82, 83, 84, 85, 86, 87, 88, 89, 90, 91, 92, 93, 94, 95, 96, 97, 98, 99, 100, 101, 102, 103, 104, 105, 106, 107, 108, 109, 110, 111, 112, 113, 114, 115, 116, 117, 118, 119, 120, 121, 122, 123, 124, 125, 126, 127, 128, 129, 130, 131, 132, 133, 134, 135] rfl (by decide +kernel)
set_option maxRecDepth 20000 in
theorem gX13_go_X13_wall : GoodIn wsX13_go (wsV RX13 407 RX13 yX13_wall wsX13_wall) := goodIn_app (goodIn_of _ (by decide +kernel)) ggX13_go_X13_wall
set_option maxHeartbeats 4000000 in
set_option maxRecDepth 100000 in
theorem S_X13_go (l : Launch) (D : va_G) (K : Nat → ClassId) (a : Nat → Nat) (G : gS) (p0 : Int32) (s0 : Int) (p1 : Int32) (s1 : Int) (p2 : Int32) (s2 : Int) (p3 : Int32) (s3 : Int) (p4 : Int32) (s4 : Int) (p5 : Int32) (s5 : Int) (p6 : Int32) (s6 : Int) (e0 : p0.toInt = s0) (h0 : 0 ≤ s0 ∧ s0 ≤ 5) (e1 : p1.toInt = s1) (h1 : 0 ≤ s1 ∧ s1 ≤ 9) (e2 : p2.toInt = s2) (h2 : 0 ≤ s2 ∧ s2 ≤ 20) (e3 : p3.toInt = s3) (h3 : 0 ≤ s3 ∧ s3 ≤ 12) (e4 : p4.toInt = s4) (h4 : 0 ≤ s4 ∧ s4 ≤ 300) (e5 : p5.toInt = s5) (h5 : 0 ≤ s5 ∧ s5 ≤ 300) (e6 : p6.toInt = s6) (wf : yW3 G) (cb : (1 ≤ psMx (psHr (G 14) s0 (G 3 0).toInt) ((G 3 0).toInt - 1).toNat - s2 * s3)) (hI : yI G) (sz : Nat) : Ki l yX13_go wsX13_go 5 142 0 0 D [.ref (a 0), .int p0, .int p1, .int p2, .int p3, .int p4, .int p5, .int p6] (yW K a G) (tK K) sz (fun (r : Int32) (G' : gS) => (yI G') ∧ (gu_un ycd [29, 36, 37, 1300, 1400, 1500, 1600, 1700, 1800, 2100] G G') ∧ (0 ≤ r.toInt ∧ r.toInt ≤ 2) ∧ (yOut G s0 p6 p2 p1 p3 p4 p5 G' r.toInt) ∧ (yOt s0 (G 3 0).toInt G G') ∧ ((s6 = -1 → G' 15 = G 15 ∧ G' 16 = G 16 ∧ G' 17 = G 17 ∧ G' 18 = G 18))) (fun (G' : gS) => (yW K a G')) (fun _ => (tK K)) := by
  unfold Ki
  refine g_ofW (cc := cX13_go) (lv := [(0, .ref (a 0)), (1, .int p0), (2, .int p1), (3, .int p2), (4, .int p3), (5, .int p4), (6, .int p5), (7, .int p6)]) (by decide) rfl (Nat.le_of_ble_eq_true rfl) rfl ?_
  intro p e s m args below meth c A Q hA hQ F hr hnm
  have hts := F.2.2.2.2.1
  have w_0 : (Cond.fieldLink RX13 400 "QuietCutModel" "v" "I").before args s = true := hts _ (List.mem_of_getElem? (i := 4) rfl)
  have i_X13 : ∀ w ∈ u_ws RX13 TX13 73, w ∈ wsX13_go := fun _ h => List.mem_cons_of_mem _ (List.mem_append_right _ h)
  have w_1 : (Cond.fieldLink RX13 392 "QuietCutModel" "x" "I").before args s = true := hts _ (List.mem_of_getElem? (i := 3) rfl)
  have w_2 : (Cond.fieldLink RX13 199 "QuietCutModel" "rule" "[I").before args s = true := hts _ (List.mem_of_getElem? (i := 1) rfl)
  have w_3 : (Cond.fieldLink RX13 235 "QuietCutModel" "now" "[I").before args s = true := hts _ (List.mem_of_getElem? (i := 2) rfl)
  have w_4 : (Cond.methodLink RX13 409 Lib.Math.abs.name).before args s = true := hts _ (List.mem_of_getElem? (i := 7) rfl)
  have w_5 : (Cond.static Lib.Math.abs.name).before args s = true := hts _ (List.mem_of_getElem? (i := 8) rfl)
  have w_6 : (Cond.initialized "java/lang/Math").before args s = true := hts _ (List.mem_of_getElem? (i := 9) rfl)
  have w_7 : (Cond.code Lib.Math.abs.name Lib.Math.abs.code 1 (some .int)).before args s = true := hts _ (List.mem_of_getElem? (i := 10) rfl)
  have w_8 : (Cond.methodLink RX13 152 Lib.Math.max.name).before args s = true := hts _ (List.mem_of_getElem? (i := 11) rfl)
  have w_9 : (Cond.static Lib.Math.max.name).before args s = true := hts _ (List.mem_of_getElem? (i := 12) rfl)
  have w_10 : (Cond.code Lib.Math.max.name Lib.Math.max.code 2 (some .int)).before args s = true := hts _ (List.mem_of_getElem? (i := 13) rfl)
  have w_11 : (Cond.fieldLink RX13 362 "QuietCutModel" "wear" "I").before args s = true := hts _ (List.mem_of_getElem? (i := 14) rfl)
  have w_12 : (Cond.fieldLink RX13 214 "QuietCutModel" "height" "[I").before args s = true := hts _ (List.mem_of_getElem? (i := 5) rfl)
  have w_13 : (Cond.fieldLink RX13 204 "QuietCutModel" "sway" "[I").before args s = true := hts _ (List.mem_of_getElem? (i := 6) rfl)
  have rg6 : -2147483648 ≤ s6 ∧ s6 ≤ 2147483647 := e6 ▸ ti_rng p6
  have b1 : (4 : Int) ≤ (G 3 0).toInt ∧ (G 3 0).toInt ≤ 16 := hI 3 0
  have b2 : (1 : Int) ≤ (G 3 1).toInt ∧ (G 3 1).toInt ≤ 6 := hI 3 1
  have b3 : (1 : Int) ≤ (G 3 2).toInt ∧ (G 3 2).toInt ≤ 99 := hI 3 2
  have b4 : (1 : Int) ≤ (G 3 7).toInt ∧ (G 3 7).toInt ≤ 9999 := hI 3 7
  have b5 : (0 : Int) ≤ (G 3 8).toInt ∧ (G 3 8).toInt ≤ 9999 := hI 3 8
  have b6 : (1 : Int) ≤ (G 3 10).toInt ∧ (G 3 10).toInt ≤ 4 := hI 3 10
  have b7 : (1 : Int) ≤ (G 3 11).toInt ∧ (G 3 11).toInt ≤ 6 := hI 3 11
  have J_62 : ∀ (fuel : Nat) (x62_8 : Int32) (x62_9 : Int32) (x62_11 : Int32) (x62_12 : Int32) (Gj62 : gS), (2147483647 - x62_12.toInt).toNat < fuel → ((-9998) ≤ x62_8.toInt ∧ x62_8.toInt ≤ 5000) → ((-9998) ≤ x62_9.toInt ∧ x62_9.toInt ≤ 5000) → (0 ≤ x62_11.toInt ∧ x62_11.toInt ≤ 1) → (0 ≤ x62_12.toInt ∧ x62_12.toInt ≤ 192) → (yI Gj62) → (gu_un ycd [29, 36, 37, 1300, 1400, 1500, 1600, 1700, 1800, 2100] G Gj62) → (x62_8.toInt = psMx (psHr (G 14) s0 (G 3 0).toInt) ((G 3 0).toInt - 1).toNat) → ((s0 < (G 3 1).toInt → x62_9.toInt = psGa (G 14) s0 (G 3 1).toInt (G 3 0).toInt x62_8.toInt)) → (yRl G s0 p6 x62_8 p2 x62_9 p1 p4 p5 Gj62 (x62_12.toInt).toNat x62_11.toInt) → (yOt s0 (G 3 0).toInt G Gj62) → ((s6 = -1 → Gj62 15 = G 15 ∧ Gj62 16 = G 16 ∧ Gj62 17 = G 17 ∧ Gj62 18 = G 18)) → ((x62_11.toInt ≠ 0 ∨ (-9999 ≤ (Gj62 0 35).toInt ∧ (Gj62 0 35).toInt ≤ 9999 ∧ -19998 ≤ (Gj62 0 36).toInt ∧ (Gj62 0 36).toInt ≤ 19998))) → ((x62_12.toInt ≤ (G 3 0).toInt * s3)) → gG p l e (gR 5 0 0 142) s m args below meth c D A 16 Q 0 0 (yW K a Gj62) (tK K) [(0, .ref (a 0)), (1, .int p0), (2, .int p1), (3, .int p2), (4, .int p3), (5, .int p4), (6, .int p5), (7, .int p6), (8, .int x62_8), (9, .int x62_9), (10, .int (G 3 0)), (11, .int x62_11), (12, .int x62_12)] 62 [] := by
    intro fuel
    induction fuel with
    | zero => intro x62_8 x62_9 x62_11 x62_12 Gj62 hm; exact absurd hm (Nat.not_lt_zero _)
    | succ fuel_62 ih_62 =>
      intro x62_8 x62_9 x62_11 x62_12 Gj62 hm_62 h62_8 h62_9 h62_11 h62_12 jI62 jU62 lv62 ga62 yr62 ot62 nl62 xb62 nn62
      have J_157 : ∀ (fuel : Nat) (x157_11 : Int32) (x157_13 : Int32) (x157_14 : Int32) (x157_15 : Int32) (Gj157 : gS), (x157_15.toInt + 2147483648).toNat < fuel → (0 ≤ x157_11.toInt ∧ x157_11.toInt ≤ 1) → (0 ≤ x62_12.toInt ∧ x62_12.toInt ≤ 191) → ((-39996) ≤ x157_13.toInt ∧ x157_13.toInt ≤ 39996) → (0 ≤ x157_14.toInt ∧ x157_14.toInt ≤ 1299) → (0 ≤ x157_15.toInt ∧ x157_15.toInt ≤ 18) → (yI Gj157) → (gu_un ycd [29, 36, 37, 1300, 1400, 1500, 1600, 1700, 1800, 2100] Gj62 Gj157) → (∀ (Q S : gS) (C : Nat → List Int), yBq G Q C (Int32.ofInt (x62_12.toInt / (G 3 0).toInt)) (x62_8 - (p2 * ((Int32.ofInt (x62_12.toInt / (G 3 0).toInt)) + 1))) → pR (G 3 0).toInt S (yHr (Gj62 14) s0) (Gj62 0 28) (Gj62 0 35) (Gj62 0 36) (Gj62 21 2) (Gj62 21 3) (Gj62 21 1) 0 → pR (G 3 0).toInt (psT Q C (x62_12.toInt % (G 3 0).toInt) (Int32.ofInt (x62_12.toInt / (G 3 0).toInt)) (G 3 10).toInt.toNat S) (yHr (Gj157 14) s0) (Gj157 0 28) (Gj62 0 35) (Gj62 0 36) (Gj157 21 2) (Gj62 21 3) (Gj62 21 1) x157_13 ∧ (p6.toInt ≠ -1 → yLf s0 (G 3 0).toInt S p6 (G 15) (G 16) (G 17) (G 18) (Gj62 15) (Gj62 16) (Gj62 17) (Gj62 18) → yLf s0 (G 3 0).toInt (psT Q C (x62_12.toInt % (G 3 0).toInt) (Int32.ofInt (x62_12.toInt / (G 3 0).toInt)) (G 3 10).toInt.toNat S) p6 (G 15) (G 16) (G 17) (G 18) (Gj157 15) (Gj157 16) (Gj157 17) (Gj157 18))) → (gcOK (mL 1 G) → x157_14 = p4 + psC 0 999 (eV (Gj157 14 (16 * s0 + (x62_12.toInt % (G 3 0).toInt)).toNat) x62_9 (mL 1 G))) → (∀ Q S : gS, (Q 0 2 = G 3 2 ∧ Q 0 7 = G 3 7 ∧ Q 3 5 = p5) → swR S (Gj62 0 35) (Gj62 0 36) (Gj62 21 3) (Gj62 21 1) 0 → swR (psJ Q x157_13 x157_14 ((p1 + G 7 (x62_12.toInt % (G 3 11).toInt).toNat).toInt - x157_15.toInt).toNat S) (Gj157 0 35) (Gj157 0 36) (Gj157 21 3) (Gj157 21 1) x157_11) → (Gj157 21 6 = (Int32.ofInt (x62_12.toInt / (G 3 0).toInt)) + 1) → (yOt s0 (G 3 0).toInt G Gj157) → ((s6 = -1 → Gj157 15 = G 15 ∧ Gj157 16 = G 16 ∧ Gj157 17 = G 17 ∧ Gj157 18 = G 18)) → ((x157_11.toInt ≠ 0 ∨ (-9999 ≤ (Gj157 0 35).toInt ∧ (Gj157 0 35).toInt ≤ 9999 ∧ -19998 ≤ (Gj157 0 36).toInt ∧ (Gj157 0 36).toInt ≤ 19998))) → ((x157_15.toInt ≤ (p1 + G 7 (x62_12.toInt % (G 3 11).toInt).toNat).toInt)) → ((x62_11.toInt = 0 ∧ x62_12.toInt < (G 3 0).toInt * s3)) → gG p l e (gR 5 0 0 142) s m args below meth c D A 16 Q 0 0 (yW K a Gj157) (tK K) [(0, .ref (a 0)), (1, .int p0), (2, .int p1), (3, .int p2), (4, .int p3), (5, .int p4), (6, .int p5), (7, .int p6), (8, .int x62_8), (9, .int x62_9), (10, .int (G 3 0)), (11, .int x157_11), (12, .int x62_12), (13, .int x157_13), (14, .int x157_14), (15, .int x157_15)] 157 [] := by
        intro fuel
        induction fuel with
        | zero => intro x157_11 x157_13 x157_14 x157_15 Gj157 hm; exact absurd hm (Nat.not_lt_zero _)
        | succ fuel_157 ih_157 =>
          intro x157_11 x157_13 x157_14 x157_15 Gj157 hm_157 h157_11 k157_12 h157_13 h157_14 h157_15 jI157 jU157 bt157 ho157 sw157 bg157 ot157 nl157 xb157 kb157 nq157
          have n1 := Int.emod_nonneg x62_12.toInt (show (G 3 0).toInt ≠ 0 by omega)
          have n2 := Int.emod_lt_of_pos x62_12.toInt (show 0 < (G 3 0).toInt by omega)
          have n3 := Int.emod_add_mul_ediv x62_12.toInt (G 3 0).toInt
          have n4 := Int.ediv_nonneg (show (0 : Int) ≤ x62_12.toInt by omega) (show (0 : Int) ≤ (G 3 0).toInt by omega)
          have n8 : x62_12.toInt / (G 3 0).toInt ≤ x62_12.toInt := Int.ediv_le_self _ (by omega)
          refine g_iload F 15 dX13_go_157 rfl ?_
          refine v_if_le F 288 dX13_go_159 (by decide) x157_15.toInt rfl (fun c8 => ?_) (fun c8 => ?_)
          · refine u_iinc F (fun v_ => [(12, .int v_), (0, .ref (a 0)), (1, .int p0), (2, .int p1), (3, .int p2), (4, .int p3), (5, .int p4), (6, .int p5), (7, .int p6), (8, .int x62_8), (9, .int x62_9), (10, .int (G 3 0)), (11, .int x157_11), (13, .int x157_13), (14, .int x157_14), (15, .int x157_15)]) dX13_go_288 (j := 12) rfl x62_12.toInt 1 rfl rfl (by omega) (by omega) (by decide) (fun _ => rfl) (fun y9 ey9 => ?_)
            refine g_goto F 62 dX13_go_291 (by decide) ?_
            refine g_locals [(0, .ref (a 0)), (1, .int p0), (2, .int p1), (3, .int p2), (4, .int p3), (5, .int p4), (6, .int p5), (7, .int p6), (8, .int x62_8), (9, .int x62_9), (10, .int (G 3 0)), (11, .int x157_11), (12, .int y9)] [1, 2, 3, 4, 5, 6, 7, 8, 9, 10, 11, 12, 0] rfl ?_
            exact ih_62 x62_8 x62_9 x157_11 y9 Gj157 (by omega) (by have h9 := ti_rng x62_8; omega) (by have h9 := ti_rng x62_9; omega) (by have h9 := ti_rng x157_11; omega) (by have h9 := ti_rng y9; omega) jI157 (gu_un.tr (gu_un.tr gu_un.rf (gu_un.su jU62 rfl)) (gu_un.su jU157 rfl)) (lv62) (ga62) (yRl.go (E := Gj62) (n := (x62_12.toInt).toNat) (T := x62_12.toInt / (G 3 0).toInt) (i := (x62_12.toInt % (G 3 0).toInt)) (s := (G 3 0).toInt) (t := (Int32.ofInt (x62_12.toInt / (G 3 0).toInt))) (fo := x157_13) (ho := x157_14) (k := ((p1 + G 7 (x62_12.toInt % (G 3 11).toInt).toNat).toInt).toNat) (sh := x157_11) (yr62.sh (by omega)) (by rw [Int.toNat_of_nonneg (by omega)]; have h9 := n3; rw [Int.mul_comm] at h9; omega) rfl n1 n2 (ti_oi (by omega) (by omega)) bg157 bt157 ho157 (by omega) (by rw [Int.toNat_of_nonneg (by omega)]) (fun Q S hq hs => swR.fin (n := (p1 + G 7 (x62_12.toInt % (G 3 11).toInt).toNat).toInt - x157_15.toInt) (m := (p1 + G 7 (x62_12.toInt % (G 3 11).toInt).toNat).toInt) (sw157 Q S hq hs) (by omega) (by omega) (by first | (left; omega) | (right; omega))) (by omega) rfl) (ot157) (nl157) (by (first | omega | (simp only [Int32.reduceToInt, true_and, and_true, ne_eq, not_true_eq_false, false_and, or_false, false_or, true_or, or_true, false_implies] <;> omega))) (by omega)
          · refine g_iload F 11 dX13_go_162 rfl ?_
            refine v_if_ne F 288 dX13_go_164 (by decide) x157_11.toInt rfl (fun c10 => ?_) (fun c10 => ?_)
            · refine u_iinc F (fun v_ => [(12, .int v_), (0, .ref (a 0)), (1, .int p0), (2, .int p1), (3, .int p2), (4, .int p3), (5, .int p4), (6, .int p5), (7, .int p6), (8, .int x62_8), (9, .int x62_9), (10, .int (G 3 0)), (11, .int x157_11), (13, .int x157_13), (14, .int x157_14), (15, .int x157_15)]) dX13_go_288 (j := 12) rfl x62_12.toInt 1 rfl rfl (by omega) (by omega) (by decide) (fun _ => rfl) (fun y11 ey11 => ?_)
              refine g_goto F 62 dX13_go_291 (by decide) ?_
              refine g_locals [(0, .ref (a 0)), (1, .int p0), (2, .int p1), (3, .int p2), (4, .int p3), (5, .int p4), (6, .int p5), (7, .int p6), (8, .int x62_8), (9, .int x62_9), (10, .int (G 3 0)), (11, .int x157_11), (12, .int y11)] [1, 2, 3, 4, 5, 6, 7, 8, 9, 10, 11, 12, 0] rfl ?_
              exact ih_62 x62_8 x62_9 x157_11 y11 Gj157 (by omega) (by have h9 := ti_rng x62_8; omega) (by have h9 := ti_rng x62_9; omega) (by have h9 := ti_rng x157_11; omega) (by have h9 := ti_rng y11; omega) jI157 (gu_un.tr (gu_un.tr gu_un.rf (gu_un.su jU62 rfl)) (gu_un.su jU157 rfl)) (lv62) (ga62) (yRl.go (E := Gj62) (n := (x62_12.toInt).toNat) (T := x62_12.toInt / (G 3 0).toInt) (i := (x62_12.toInt % (G 3 0).toInt)) (s := (G 3 0).toInt) (t := (Int32.ofInt (x62_12.toInt / (G 3 0).toInt))) (fo := x157_13) (ho := x157_14) (k := ((p1 + G 7 (x62_12.toInt % (G 3 11).toInt).toNat).toInt).toNat) (sh := x157_11) (yr62.sh (by omega)) (by rw [Int.toNat_of_nonneg (by omega)]; have h9 := n3; rw [Int.mul_comm] at h9; omega) rfl n1 n2 (ti_oi (by omega) (by omega)) bg157 bt157 ho157 (by omega) (by rw [Int.toNat_of_nonneg (by omega)]) (fun Q S hq hs => swR.fin (n := (p1 + G 7 (x62_12.toInt % (G 3 11).toInt).toNat).toInt - x157_15.toInt) (m := (p1 + G 7 (x62_12.toInt % (G 3 11).toInt).toNat).toInt) (sw157 Q S hq hs) (by omega) (by omega) (by first | (left; omega) | (right; omega))) (by omega) rfl) (ot157) (nl157) (by (first | omega | (simp only [Int32.reduceToInt, true_and, and_true, ne_eq, not_true_eq_false, false_and, or_false, false_or, true_or, or_true, false_implies] <;> omega))) (by omega)
            · refine g_aload_n F 0 dX13_go_167 rfl rfl ?_
              refine g_dup F dX13_go_168 rfl ?_
              refine yg_0_36 F i_X13 w_0 dX13_go_169 (Gj157 0 36) (rfl) ?_
              refine g_iload F 13 dX13_go_172 rfl ?_
              refine g_iload F 14 dX13_go_174 rfl ?_
              refine g_aload_n F 0 dX13_go_176 rfl rfl ?_
              refine yg_0_35 F i_X13 w_1 dX13_go_177 (Gj157 0 35) (rfl) ?_
              refine g_imul F dX13_go_180 ?_
              refine g_isub F dX13_go_181 ?_
              refine g_iload F 6 dX13_go_182 rfl ?_
              refine g_aload_n F 0 dX13_go_184 rfl rfl ?_
              refine yg_0_36 F i_X13 w_0 dX13_go_185 (Gj157 0 36) (rfl) ?_
              refine g_imul F dX13_go_188 ?_
              refine g_isub F dX13_go_189 ?_
              refine g_aload_n F 0 dX13_go_190 rfl rfl ?_
              refine yg_0_10 F i_X13 w_2 dX13_go_191 ?_
              refine g_iconst F 2 dX13_go_194 (by decide) ?_
              refine u1_iald F 3 0 yc_3 rfl 2 rfl (by decide) (by decide) dX13_go_195 (G 3 2) ((jU157 3 2 (by decide)).trans (jU62 3 2 (by decide))) ?_
              refine g_idiv F dX13_go_196 (ti_ne0 rfl (by omega)) ?_
              refine g_iadd F dX13_go_197 ?_
              have vb : -19100000 ≤ (((Gj157 0 36) + (((x157_13 - (x157_14 * (Gj157 0 35))) - (p5 * (Gj157 0 36))) / (G 3 2))) : Int32).toInt ∧ (((Gj157 0 36) + (((x157_13 - (x157_14 * (Gj157 0 35))) - (p5 * (Gj157 0 36))) / (G 3 2))) : Int32).toInt ≤ 19100000 := psV_bd (by omega) (by omega) (by omega) (by omega) (by omega)
              refine yp_0_36 F i_X13 w_0 dX13_go_198 ?_
              refine g_aload_n F 0 dX13_go_201 rfl rfl ?_
              refine g_dup F dX13_go_202 rfl ?_
              refine yg_0_35 F i_X13 w_1 dX13_go_203 (Gj157 0 35) (rfl) ?_
              refine g_aload_n F 0 dX13_go_206 rfl rfl ?_
              refine yg_0_36 F i_X13 w_0 dX13_go_207 ((Gj157 0 36) + (((x157_13 - (x157_14 * (Gj157 0 35))) - (p5 * (Gj157 0 36))) / (G 3 2))) (rfl) ?_
              refine g_iadd F dX13_go_210 ?_
              have xb2 : (((Gj157 0 35) + ((Gj157 0 36) + (((x157_13 - (x157_14 * (Gj157 0 35))) - (p5 * (Gj157 0 36))) / (G 3 2)))) : Int32).toInt = _ + _ := ti_add rfl rfl (by omega) (by omega)
              refine yp_0_35 F i_X13 w_1 dX13_go_211 ?_
              refine g_aload_n F 0 dX13_go_214 rfl rfl ?_
              refine yg_0_33 F i_X13 w_3 dX13_go_215 ?_
              refine g_iconst F 1 dX13_go_218 (by decide) ?_
              refine g_dup2 F dX13_go_219 rfl rfl ?_
              refine u1_iald F 21 0 yc_21 rfl 1 rfl (by decide) (by decide) dX13_go_220 (Gj157 21 1) (rfl) ?_
              refine g_iconst F 1 dX13_go_221 (by decide) ?_
              refine g_iadd F dX13_go_222 ?_
              refine u_iast F 21 0 yc_21 rfl 1 rfl (by decide) (by decide) (yW K a (gu_up (gu_up (gu_up Gj157 0 36 ((Gj157 0 36) + (((x157_13 - (x157_14 * (Gj157 0 35))) - (p5 * (Gj157 0 36))) / (G 3 2)))) 0 35 ((Gj157 0 35) + ((Gj157 0 36) + (((x157_13 - (x157_14 * (Gj157 0 35))) - (p5 * (Gj157 0 36))) / (G 3 2))))) 21 1 ((Gj157 21 1) + 1))) (ys_21 _) dX13_go_223 ?_
              refine g_aload_n F 0 dX13_go_224 rfl rfl ?_
              refine yg_0_33 F i_X13 w_3 dX13_go_225 ?_
              refine g_iconst F 3 dX13_go_228 (by decide) ?_
              refine g_aload_n F 0 dX13_go_229 rfl rfl ?_
              refine yg_0_33 F i_X13 w_3 dX13_go_230 ?_
              refine g_iconst F 3 dX13_go_233 (by decide) ?_
              refine u1_iald F 21 0 yc_21 rfl 3 rfl (by decide) (by decide) dX13_go_234 (Gj157 21 3) (rfl) ?_
              refine g_aload_n F 0 dX13_go_235 rfl rfl ?_
              refine yg_0_35 F i_X13 w_1 dX13_go_236 ((Gj157 0 35) + ((Gj157 0 36) + (((x157_13 - (x157_14 * (Gj157 0 35))) - (p5 * (Gj157 0 36))) / (G 3 2)))) (rfl) ?_
              refine u_mabs F w_4 w_5 w_6 w_7 (Nat.le_of_ble_eq_true rfl) (Nat.le_of_ble_eq_true rfl) (Nat.le_of_ble_eq_true rfl) (Nat.le_of_ble_eq_true rfl) dX13_go_239 (((Gj157 0 35) + ((Gj157 0 36) + (((x157_13 - (x157_14 * (Gj157 0 35))) - (p5 * (Gj157 0 36))) / (G 3 2)))) : Int32).toInt rfl (by omega) (fun y12 ey12 => ?_)
              refine u_mmax F w_8 w_9 w_6 w_10 (Nat.le_of_ble_eq_true rfl) (Nat.le_of_ble_eq_true rfl) (Nat.le_of_ble_eq_true rfl) (Nat.le_of_ble_eq_true rfl) dX13_go_242 (Gj157 21 3).toInt y12.toInt rfl rfl (fun y13 ey13 => ?_)
              have b14 := ti_rng y13
              refine u_iast F 21 0 yc_21 rfl 3 rfl (by decide) (by decide) (yW K a (gu_up (gu_up (gu_up (gu_up Gj157 0 36 ((Gj157 0 36) + (((x157_13 - (x157_14 * (Gj157 0 35))) - (p5 * (Gj157 0 36))) / (G 3 2)))) 0 35 ((Gj157 0 35) + ((Gj157 0 36) + (((x157_13 - (x157_14 * (Gj157 0 35))) - (p5 * (Gj157 0 36))) / (G 3 2))))) 21 1 ((Gj157 21 1) + 1)) 21 3 y13)) (ys_21 _) dX13_go_245 ?_
              refine g_aload_n F 0 dX13_go_246 rfl rfl ?_
              refine yg_0_35 F i_X13 w_1 dX13_go_247 ((Gj157 0 35) + ((Gj157 0 36) + (((x157_13 - (x157_14 * (Gj157 0 35))) - (p5 * (Gj157 0 36))) / (G 3 2)))) (rfl) ?_
              refine g_aload_n F 0 dX13_go_250 rfl rfl ?_
              refine yg_0_10 F i_X13 w_2 dX13_go_251 ?_
              refine g_bipush F 7 dX13_go_254 (by decide) ?_
              refine u1_iald F 3 0 yc_3 rfl 7 rfl (by decide) (by decide) dX13_go_256 (G 3 7) ((jU157 3 7 (by decide)).trans (jU62 3 7 (by decide))) ?_
              refine v_icmp_gt F 275 dX13_go_257 (by decide) (((Gj157 0 35) + ((Gj157 0 36) + (((x157_13 - (x157_14 * (Gj157 0 35))) - (p5 * (Gj157 0 36))) / (G 3 2)))) : Int32).toInt (G 3 7).toInt rfl rfl (fun c15 => ?_) (fun c15 => ?_)
              · refine g_iconst F 1 dX13_go_275 (by decide) ?_
                refine g_goto F 280 dX13_go_276 (by decide) ?_
                refine g_istore F [(11, .int 1), (0, .ref (a 0)), (1, .int p0), (2, .int p1), (3, .int p2), (4, .int p3), (5, .int p4), (6, .int p5), (7, .int p6), (8, .int x62_8), (9, .int x62_9), (10, .int (G 3 0)), (12, .int x62_12), (13, .int x157_13), (14, .int x157_14), (15, .int x157_15)] dX13_go_280 (by decide) rfl ?_
                refine u_iinc F (fun v_ => [(15, .int v_), (11, .int 1), (0, .ref (a 0)), (1, .int p0), (2, .int p1), (3, .int p2), (4, .int p3), (5, .int p4), (6, .int p5), (7, .int p6), (8, .int x62_8), (9, .int x62_9), (10, .int (G 3 0)), (12, .int x62_12), (13, .int x157_13), (14, .int x157_14)]) dX13_go_282 (j := 15) rfl x157_15.toInt (-1) rfl rfl (by omega) (by omega) (by decide) (fun _ => rfl) (fun y16 ey16 => ?_)
                refine g_goto F 157 dX13_go_285 (by decide) ?_
                refine g_locals [(0, .ref (a 0)), (1, .int p0), (2, .int p1), (3, .int p2), (4, .int p3), (5, .int p4), (6, .int p5), (7, .int p6), (8, .int x62_8), (9, .int x62_9), (10, .int (G 3 0)), (11, .int 1), (12, .int x62_12), (13, .int x157_13), (14, .int x157_14), (15, .int y16)] [2, 3, 4, 5, 6, 7, 8, 9, 10, 11, 12, 1, 13, 14, 15, 0] rfl ?_
                exact ih_157 1 x157_13 x157_14 y16 (gu_up (gu_up (gu_up (gu_up Gj157 0 36 ((Gj157 0 36) + (((x157_13 - (x157_14 * (Gj157 0 35))) - (p5 * (Gj157 0 36))) / (G 3 2)))) 0 35 ((Gj157 0 35) + ((Gj157 0 36) + (((x157_13 - (x157_14 * (Gj157 0 35))) - (p5 * (Gj157 0 36))) / (G 3 2))))) 21 1 ((Gj157 21 1) + 1)) 21 3 y13) (by omega) (by decide) (by have h9 := ti_rng x62_12; omega) (by have h9 := ti_rng x157_13; omega) (by have h9 := ti_rng x157_14; omega) (by have h9 := ti_rng y16; omega) (gu_I.up (j := 21) (k := 3) (v := y13) (gu_I.up (j := 21) (k := 1) (v := ((Gj157 21 1) + 1)) (gu_I.up (j := 0) (k := 35) (v := ((Gj157 0 35) + ((Gj157 0 36) + (((x157_13 - (x157_14 * (Gj157 0 35))) - (p5 * (Gj157 0 36))) / (G 3 2))))) (gu_I.up (j := 0) (k := 36) (v := ((Gj157 0 36) + (((x157_13 - (x157_14 * (Gj157 0 35))) - (p5 * (Gj157 0 36))) / (G 3 2)))) jI157 (ti_rng _).1 (ti_rng _).2) (ti_rng _).1 (ti_rng _).2) (ti_rng _).1 (ti_rng _).2) (ti_rng _).1 (ti_rng _).2) (gu_un.up (j := 21) (k := 3) (v := y13) (gu_un.up (j := 21) (k := 1) (v := ((Gj157 21 1) + 1)) (gu_un.up (j := 0) (k := 35) (v := ((Gj157 0 35) + ((Gj157 0 36) + (((x157_13 - (x157_14 * (Gj157 0 35))) - (p5 * (Gj157 0 36))) / (G 3 2))))) (gu_un.up (j := 0) (k := 36) (v := ((Gj157 0 36) + (((x157_13 - (x157_14 * (Gj157 0 35))) - (p5 * (Gj157 0 36))) / (G 3 2)))) (gu_un.tr gu_un.rf (gu_un.su jU157 rfl)) (show (37 : Nat) ∈ ([29, 36, 37, 1300, 1400, 1500, 1600, 1700, 1800, 2100] : List Nat) by decide)) (show (36 : Nat) ∈ ([29, 36, 37, 1300, 1400, 1500, 1600, 1700, 1800, 2100] : List Nat) by decide)) (show (2100 : Nat) ∈ ([29, 36, 37, 1300, 1400, 1500, 1600, 1700, 1800, 2100] : List Nat) by decide)) (show (2100 : Nat) ∈ ([29, 36, 37, 1300, 1400, 1500, 1600, 1700, 1800, 2100] : List Nat) by decide)) (bt157) (ho157) (fun Q S hq hs => swR.step (n := ((p1 + G 7 (x62_12.toInt % (G 3 11).toInt).toNat).toInt - x157_15.toInt).toNat) (x' := ((Gj157 0 35) + ((Gj157 0 36) + (((x157_13 - (x157_14 * (Gj157 0 35))) - (p5 * (Gj157 0 36))) / (G 3 2))))) (v' := ((Gj157 0 36) + (((x157_13 - (x157_14 * (Gj157 0 35))) - (p5 * (Gj157 0 36))) / (G 3 2)))) (pk' := y13) (tm' := ((Gj157 21 1) + 1)) (sw157 Q S hq hs) (by omega) (by rw [hq.1, hq.2.2]) rfl (by unfold psA; split <;> omega) rfl (by rw [hq.2.1]; first | exact Or.inl ⟨rfl, by unfold psA; split <;> omega⟩ | exact Or.inr ⟨rfl, by unfold psA; split <;> omega⟩) (by omega)) ((show (gu_up (gu_up (gu_up (gu_up Gj157 0 36 ((Gj157 0 36) + (((x157_13 - (x157_14 * (Gj157 0 35))) - (p5 * (Gj157 0 36))) / (G 3 2)))) 0 35 ((Gj157 0 35) + ((Gj157 0 36) + (((x157_13 - (x157_14 * (Gj157 0 35))) - (p5 * (Gj157 0 36))) / (G 3 2))))) 21 1 ((Gj157 21 1) + 1)) 21 3 y13) 21 6 = Gj157 21 6 from rfl).trans bg157) (yOt.tr ot157 (yOt.un (show gu_un ycd [36, 37, 2100] Gj157 (gu_up (gu_up (gu_up (gu_up Gj157 0 36 ((Gj157 0 36) + (((x157_13 - (x157_14 * (Gj157 0 35))) - (p5 * (Gj157 0 36))) / (G 3 2)))) 0 35 ((Gj157 0 35) + ((Gj157 0 36) + (((x157_13 - (x157_14 * (Gj157 0 35))) - (p5 * (Gj157 0 36))) / (G 3 2))))) 21 1 ((Gj157 21 1) + 1)) 21 3 y13) from (gu_un.up (j := 21) (k := 3) (v := y13) (gu_un.up (j := 21) (k := 1) (v := ((Gj157 21 1) + 1)) (gu_un.up (j := 0) (k := 35) (v := ((Gj157 0 35) + ((Gj157 0 36) + (((x157_13 - (x157_14 * (Gj157 0 35))) - (p5 * (Gj157 0 36))) / (G 3 2))))) (gu_un.up (j := 0) (k := 36) (v := ((Gj157 0 36) + (((x157_13 - (x157_14 * (Gj157 0 35))) - (p5 * (Gj157 0 36))) / (G 3 2)))) gu_un.rf (show (37 : Nat) ∈ ([36, 37, 2100] : List Nat) by decide)) (show (36 : Nat) ∈ ([36, 37, 2100] : List Nat) by decide)) (show (2100 : Nat) ∈ ([36, 37, 2100] : List Nat) by decide)) (show (2100 : Nat) ∈ ([36, 37, 2100] : List Nat) by decide))) rfl)) (fun h9 => ⟨(show (gu_up (gu_up (gu_up (gu_up Gj157 0 36 ((Gj157 0 36) + (((x157_13 - (x157_14 * (Gj157 0 35))) - (p5 * (Gj157 0 36))) / (G 3 2)))) 0 35 ((Gj157 0 35) + ((Gj157 0 36) + (((x157_13 - (x157_14 * (Gj157 0 35))) - (p5 * (Gj157 0 36))) / (G 3 2))))) 21 1 ((Gj157 21 1) + 1)) 21 3 y13) 15 = Gj157 15 from funext fun k_ => (show gu_un ycd [36, 37, 2100] Gj157 (gu_up (gu_up (gu_up (gu_up Gj157 0 36 ((Gj157 0 36) + (((x157_13 - (x157_14 * (Gj157 0 35))) - (p5 * (Gj157 0 36))) / (G 3 2)))) 0 35 ((Gj157 0 35) + ((Gj157 0 36) + (((x157_13 - (x157_14 * (Gj157 0 35))) - (p5 * (Gj157 0 36))) / (G 3 2))))) 21 1 ((Gj157 21 1) + 1)) 21 3 y13) from (gu_un.up (j := 21) (k := 3) (v := y13) (gu_un.up (j := 21) (k := 1) (v := ((Gj157 21 1) + 1)) (gu_un.up (j := 0) (k := 35) (v := ((Gj157 0 35) + ((Gj157 0 36) + (((x157_13 - (x157_14 * (Gj157 0 35))) - (p5 * (Gj157 0 36))) / (G 3 2))))) (gu_un.up (j := 0) (k := 36) (v := ((Gj157 0 36) + (((x157_13 - (x157_14 * (Gj157 0 35))) - (p5 * (Gj157 0 36))) / (G 3 2)))) gu_un.rf (show (37 : Nat) ∈ ([36, 37, 2100] : List Nat) by decide)) (show (36 : Nat) ∈ ([36, 37, 2100] : List Nat) by decide)) (show (2100 : Nat) ∈ ([36, 37, 2100] : List Nat) by decide)) (show (2100 : Nat) ∈ ([36, 37, 2100] : List Nat) by decide))) 15 k_ (by simp [ycd])).trans (nl157 h9).1, (show (gu_up (gu_up (gu_up (gu_up Gj157 0 36 ((Gj157 0 36) + (((x157_13 - (x157_14 * (Gj157 0 35))) - (p5 * (Gj157 0 36))) / (G 3 2)))) 0 35 ((Gj157 0 35) + ((Gj157 0 36) + (((x157_13 - (x157_14 * (Gj157 0 35))) - (p5 * (Gj157 0 36))) / (G 3 2))))) 21 1 ((Gj157 21 1) + 1)) 21 3 y13) 16 = Gj157 16 from funext fun k_ => (show gu_un ycd [36, 37, 2100] Gj157 (gu_up (gu_up (gu_up (gu_up Gj157 0 36 ((Gj157 0 36) + (((x157_13 - (x157_14 * (Gj157 0 35))) - (p5 * (Gj157 0 36))) / (G 3 2)))) 0 35 ((Gj157 0 35) + ((Gj157 0 36) + (((x157_13 - (x157_14 * (Gj157 0 35))) - (p5 * (Gj157 0 36))) / (G 3 2))))) 21 1 ((Gj157 21 1) + 1)) 21 3 y13) from (gu_un.up (j := 21) (k := 3) (v := y13) (gu_un.up (j := 21) (k := 1) (v := ((Gj157 21 1) + 1)) (gu_un.up (j := 0) (k := 35) (v := ((Gj157 0 35) + ((Gj157 0 36) + (((x157_13 - (x157_14 * (Gj157 0 35))) - (p5 * (Gj157 0 36))) / (G 3 2))))) (gu_un.up (j := 0) (k := 36) (v := ((Gj157 0 36) + (((x157_13 - (x157_14 * (Gj157 0 35))) - (p5 * (Gj157 0 36))) / (G 3 2)))) gu_un.rf (show (37 : Nat) ∈ ([36, 37, 2100] : List Nat) by decide)) (show (36 : Nat) ∈ ([36, 37, 2100] : List Nat) by decide)) (show (2100 : Nat) ∈ ([36, 37, 2100] : List Nat) by decide)) (show (2100 : Nat) ∈ ([36, 37, 2100] : List Nat) by decide))) 16 k_ (by simp [ycd])).trans (nl157 h9).2.1, (show (gu_up (gu_up (gu_up (gu_up Gj157 0 36 ((Gj157 0 36) + (((x157_13 - (x157_14 * (Gj157 0 35))) - (p5 * (Gj157 0 36))) / (G 3 2)))) 0 35 ((Gj157 0 35) + ((Gj157 0 36) + (((x157_13 - (x157_14 * (Gj157 0 35))) - (p5 * (Gj157 0 36))) / (G 3 2))))) 21 1 ((Gj157 21 1) + 1)) 21 3 y13) 17 = Gj157 17 from funext fun k_ => (show gu_un ycd [36, 37, 2100] Gj157 (gu_up (gu_up (gu_up (gu_up Gj157 0 36 ((Gj157 0 36) + (((x157_13 - (x157_14 * (Gj157 0 35))) - (p5 * (Gj157 0 36))) / (G 3 2)))) 0 35 ((Gj157 0 35) + ((Gj157 0 36) + (((x157_13 - (x157_14 * (Gj157 0 35))) - (p5 * (Gj157 0 36))) / (G 3 2))))) 21 1 ((Gj157 21 1) + 1)) 21 3 y13) from (gu_un.up (j := 21) (k := 3) (v := y13) (gu_un.up (j := 21) (k := 1) (v := ((Gj157 21 1) + 1)) (gu_un.up (j := 0) (k := 35) (v := ((Gj157 0 35) + ((Gj157 0 36) + (((x157_13 - (x157_14 * (Gj157 0 35))) - (p5 * (Gj157 0 36))) / (G 3 2))))) (gu_un.up (j := 0) (k := 36) (v := ((Gj157 0 36) + (((x157_13 - (x157_14 * (Gj157 0 35))) - (p5 * (Gj157 0 36))) / (G 3 2)))) gu_un.rf (show (37 : Nat) ∈ ([36, 37, 2100] : List Nat) by decide)) (show (36 : Nat) ∈ ([36, 37, 2100] : List Nat) by decide)) (show (2100 : Nat) ∈ ([36, 37, 2100] : List Nat) by decide)) (show (2100 : Nat) ∈ ([36, 37, 2100] : List Nat) by decide))) 17 k_ (by simp [ycd])).trans (nl157 h9).2.2.1, (show (gu_up (gu_up (gu_up (gu_up Gj157 0 36 ((Gj157 0 36) + (((x157_13 - (x157_14 * (Gj157 0 35))) - (p5 * (Gj157 0 36))) / (G 3 2)))) 0 35 ((Gj157 0 35) + ((Gj157 0 36) + (((x157_13 - (x157_14 * (Gj157 0 35))) - (p5 * (Gj157 0 36))) / (G 3 2))))) 21 1 ((Gj157 21 1) + 1)) 21 3 y13) 18 = Gj157 18 from funext fun k_ => (show gu_un ycd [36, 37, 2100] Gj157 (gu_up (gu_up (gu_up (gu_up Gj157 0 36 ((Gj157 0 36) + (((x157_13 - (x157_14 * (Gj157 0 35))) - (p5 * (Gj157 0 36))) / (G 3 2)))) 0 35 ((Gj157 0 35) + ((Gj157 0 36) + (((x157_13 - (x157_14 * (Gj157 0 35))) - (p5 * (Gj157 0 36))) / (G 3 2))))) 21 1 ((Gj157 21 1) + 1)) 21 3 y13) from (gu_un.up (j := 21) (k := 3) (v := y13) (gu_un.up (j := 21) (k := 1) (v := ((Gj157 21 1) + 1)) (gu_un.up (j := 0) (k := 35) (v := ((Gj157 0 35) + ((Gj157 0 36) + (((x157_13 - (x157_14 * (Gj157 0 35))) - (p5 * (Gj157 0 36))) / (G 3 2))))) (gu_un.up (j := 0) (k := 36) (v := ((Gj157 0 36) + (((x157_13 - (x157_14 * (Gj157 0 35))) - (p5 * (Gj157 0 36))) / (G 3 2)))) gu_un.rf (show (37 : Nat) ∈ ([36, 37, 2100] : List Nat) by decide)) (show (36 : Nat) ∈ ([36, 37, 2100] : List Nat) by decide)) (show (2100 : Nat) ∈ ([36, 37, 2100] : List Nat) by decide)) (show (2100 : Nat) ∈ ([36, 37, 2100] : List Nat) by decide))) 18 k_ (by simp [ycd])).trans (nl157 h9).2.2.2⟩) (by have e9_0_35 : (gu_up (gu_up (gu_up (gu_up Gj157 0 36 ((Gj157 0 36) + (((x157_13 - (x157_14 * (Gj157 0 35))) - (p5 * (Gj157 0 36))) / (G 3 2)))) 0 35 ((Gj157 0 35) + ((Gj157 0 36) + (((x157_13 - (x157_14 * (Gj157 0 35))) - (p5 * (Gj157 0 36))) / (G 3 2))))) 21 1 ((Gj157 21 1) + 1)) 21 3 y13) 0 35 = ((Gj157 0 35) + ((Gj157 0 36) + (((x157_13 - (x157_14 * (Gj157 0 35))) - (p5 * (Gj157 0 36))) / (G 3 2)))) := rfl; have e9_0_36 : (gu_up (gu_up (gu_up (gu_up Gj157 0 36 ((Gj157 0 36) + (((x157_13 - (x157_14 * (Gj157 0 35))) - (p5 * (Gj157 0 36))) / (G 3 2)))) 0 35 ((Gj157 0 35) + ((Gj157 0 36) + (((x157_13 - (x157_14 * (Gj157 0 35))) - (p5 * (Gj157 0 36))) / (G 3 2))))) 21 1 ((Gj157 21 1) + 1)) 21 3 y13) 0 36 = ((Gj157 0 36) + (((x157_13 - (x157_14 * (Gj157 0 35))) - (p5 * (Gj157 0 36))) / (G 3 2))) := rfl; (try simp only [e9_0_35, e9_0_36, true_and, and_true]) <;> (first | omega | (simp only [Int32.reduceToInt, true_and, and_true, ne_eq, not_true_eq_false, false_and, or_false, false_or, true_or, or_true, false_implies] <;> omega))) (by omega) (by (first | omega | (simp only [Int32.reduceToInt, true_and, and_true, ne_eq, not_true_eq_false, false_and, or_false, false_or, true_or, or_true, false_implies] <;> omega)))
              · refine g_aload_n F 0 dX13_go_260 rfl rfl ?_
                refine yg_0_35 F i_X13 w_1 dX13_go_261 ((Gj157 0 35) + ((Gj157 0 36) + (((x157_13 - (x157_14 * (Gj157 0 35))) - (p5 * (Gj157 0 36))) / (G 3 2)))) (rfl) ?_
                refine g_aload_n F 0 dX13_go_264 rfl rfl ?_
                refine yg_0_10 F i_X13 w_2 dX13_go_265 ?_
                refine g_bipush F 7 dX13_go_268 (by decide) ?_
                refine u1_iald F 3 0 yc_3 rfl 7 rfl (by decide) (by decide) dX13_go_270 (G 3 7) ((jU157 3 7 (by decide)).trans (jU62 3 7 (by decide))) ?_
                refine u_ineg F dX13_go_271 (G 3 7).toInt rfl (by omega) (fun y17 ey17 => ?_)
                refine v_icmp_ge F 279 dX13_go_272 (by decide) (((Gj157 0 35) + ((Gj157 0 36) + (((x157_13 - (x157_14 * (Gj157 0 35))) - (p5 * (Gj157 0 36))) / (G 3 2)))) : Int32).toInt y17.toInt rfl rfl (fun c18 => ?_) (fun c18 => ?_)
                · refine g_iconst F 0 dX13_go_279 (by decide) ?_
                  refine g_istore F [(11, .int 0), (0, .ref (a 0)), (1, .int p0), (2, .int p1), (3, .int p2), (4, .int p3), (5, .int p4), (6, .int p5), (7, .int p6), (8, .int x62_8), (9, .int x62_9), (10, .int (G 3 0)), (12, .int x62_12), (13, .int x157_13), (14, .int x157_14), (15, .int x157_15)] dX13_go_280 (by decide) rfl ?_
                  refine u_iinc F (fun v_ => [(15, .int v_), (11, .int 0), (0, .ref (a 0)), (1, .int p0), (2, .int p1), (3, .int p2), (4, .int p3), (5, .int p4), (6, .int p5), (7, .int p6), (8, .int x62_8), (9, .int x62_9), (10, .int (G 3 0)), (12, .int x62_12), (13, .int x157_13), (14, .int x157_14)]) dX13_go_282 (j := 15) rfl x157_15.toInt (-1) rfl rfl (by omega) (by omega) (by decide) (fun _ => rfl) (fun y19 ey19 => ?_)
                  refine g_goto F 157 dX13_go_285 (by decide) ?_
                  refine g_locals [(0, .ref (a 0)), (1, .int p0), (2, .int p1), (3, .int p2), (4, .int p3), (5, .int p4), (6, .int p5), (7, .int p6), (8, .int x62_8), (9, .int x62_9), (10, .int (G 3 0)), (11, .int 0), (12, .int x62_12), (13, .int x157_13), (14, .int x157_14), (15, .int y19)] [2, 3, 4, 5, 6, 7, 8, 9, 10, 11, 12, 1, 13, 14, 15, 0] rfl ?_
                  exact ih_157 0 x157_13 x157_14 y19 (gu_up (gu_up (gu_up (gu_up Gj157 0 36 ((Gj157 0 36) + (((x157_13 - (x157_14 * (Gj157 0 35))) - (p5 * (Gj157 0 36))) / (G 3 2)))) 0 35 ((Gj157 0 35) + ((Gj157 0 36) + (((x157_13 - (x157_14 * (Gj157 0 35))) - (p5 * (Gj157 0 36))) / (G 3 2))))) 21 1 ((Gj157 21 1) + 1)) 21 3 y13) (by omega) (by decide) (by have h9 := ti_rng x62_12; omega) (by have h9 := ti_rng x157_13; omega) (by have h9 := ti_rng x157_14; omega) (by have h9 := ti_rng y19; omega) (gu_I.up (j := 21) (k := 3) (v := y13) (gu_I.up (j := 21) (k := 1) (v := ((Gj157 21 1) + 1)) (gu_I.up (j := 0) (k := 35) (v := ((Gj157 0 35) + ((Gj157 0 36) + (((x157_13 - (x157_14 * (Gj157 0 35))) - (p5 * (Gj157 0 36))) / (G 3 2))))) (gu_I.up (j := 0) (k := 36) (v := ((Gj157 0 36) + (((x157_13 - (x157_14 * (Gj157 0 35))) - (p5 * (Gj157 0 36))) / (G 3 2)))) jI157 (ti_rng _).1 (ti_rng _).2) (ti_rng _).1 (ti_rng _).2) (ti_rng _).1 (ti_rng _).2) (ti_rng _).1 (ti_rng _).2) (gu_un.up (j := 21) (k := 3) (v := y13) (gu_un.up (j := 21) (k := 1) (v := ((Gj157 21 1) + 1)) (gu_un.up (j := 0) (k := 35) (v := ((Gj157 0 35) + ((Gj157 0 36) + (((x157_13 - (x157_14 * (Gj157 0 35))) - (p5 * (Gj157 0 36))) / (G 3 2))))) (gu_un.up (j := 0) (k := 36) (v := ((Gj157 0 36) + (((x157_13 - (x157_14 * (Gj157 0 35))) - (p5 * (Gj157 0 36))) / (G 3 2)))) (gu_un.tr gu_un.rf (gu_un.su jU157 rfl)) (show (37 : Nat) ∈ ([29, 36, 37, 1300, 1400, 1500, 1600, 1700, 1800, 2100] : List Nat) by decide)) (show (36 : Nat) ∈ ([29, 36, 37, 1300, 1400, 1500, 1600, 1700, 1800, 2100] : List Nat) by decide)) (show (2100 : Nat) ∈ ([29, 36, 37, 1300, 1400, 1500, 1600, 1700, 1800, 2100] : List Nat) by decide)) (show (2100 : Nat) ∈ ([29, 36, 37, 1300, 1400, 1500, 1600, 1700, 1800, 2100] : List Nat) by decide)) (bt157) (ho157) (fun Q S hq hs => swR.step (n := ((p1 + G 7 (x62_12.toInt % (G 3 11).toInt).toNat).toInt - x157_15.toInt).toNat) (x' := ((Gj157 0 35) + ((Gj157 0 36) + (((x157_13 - (x157_14 * (Gj157 0 35))) - (p5 * (Gj157 0 36))) / (G 3 2))))) (v' := ((Gj157 0 36) + (((x157_13 - (x157_14 * (Gj157 0 35))) - (p5 * (Gj157 0 36))) / (G 3 2)))) (pk' := y13) (tm' := ((Gj157 21 1) + 1)) (sw157 Q S hq hs) (by omega) (by rw [hq.1, hq.2.2]) rfl (by unfold psA; split <;> omega) rfl (by rw [hq.2.1]; first | exact Or.inl ⟨rfl, by unfold psA; split <;> omega⟩ | exact Or.inr ⟨rfl, by unfold psA; split <;> omega⟩) (by omega)) ((show (gu_up (gu_up (gu_up (gu_up Gj157 0 36 ((Gj157 0 36) + (((x157_13 - (x157_14 * (Gj157 0 35))) - (p5 * (Gj157 0 36))) / (G 3 2)))) 0 35 ((Gj157 0 35) + ((Gj157 0 36) + (((x157_13 - (x157_14 * (Gj157 0 35))) - (p5 * (Gj157 0 36))) / (G 3 2))))) 21 1 ((Gj157 21 1) + 1)) 21 3 y13) 21 6 = Gj157 21 6 from rfl).trans bg157) (yOt.tr ot157 (yOt.un (show gu_un ycd [36, 37, 2100] Gj157 (gu_up (gu_up (gu_up (gu_up Gj157 0 36 ((Gj157 0 36) + (((x157_13 - (x157_14 * (Gj157 0 35))) - (p5 * (Gj157 0 36))) / (G 3 2)))) 0 35 ((Gj157 0 35) + ((Gj157 0 36) + (((x157_13 - (x157_14 * (Gj157 0 35))) - (p5 * (Gj157 0 36))) / (G 3 2))))) 21 1 ((Gj157 21 1) + 1)) 21 3 y13) from (gu_un.up (j := 21) (k := 3) (v := y13) (gu_un.up (j := 21) (k := 1) (v := ((Gj157 21 1) + 1)) (gu_un.up (j := 0) (k := 35) (v := ((Gj157 0 35) + ((Gj157 0 36) + (((x157_13 - (x157_14 * (Gj157 0 35))) - (p5 * (Gj157 0 36))) / (G 3 2))))) (gu_un.up (j := 0) (k := 36) (v := ((Gj157 0 36) + (((x157_13 - (x157_14 * (Gj157 0 35))) - (p5 * (Gj157 0 36))) / (G 3 2)))) gu_un.rf (show (37 : Nat) ∈ ([36, 37, 2100] : List Nat) by decide)) (show (36 : Nat) ∈ ([36, 37, 2100] : List Nat) by decide)) (show (2100 : Nat) ∈ ([36, 37, 2100] : List Nat) by decide)) (show (2100 : Nat) ∈ ([36, 37, 2100] : List Nat) by decide))) rfl)) (fun h9 => ⟨(show (gu_up (gu_up (gu_up (gu_up Gj157 0 36 ((Gj157 0 36) + (((x157_13 - (x157_14 * (Gj157 0 35))) - (p5 * (Gj157 0 36))) / (G 3 2)))) 0 35 ((Gj157 0 35) + ((Gj157 0 36) + (((x157_13 - (x157_14 * (Gj157 0 35))) - (p5 * (Gj157 0 36))) / (G 3 2))))) 21 1 ((Gj157 21 1) + 1)) 21 3 y13) 15 = Gj157 15 from funext fun k_ => (show gu_un ycd [36, 37, 2100] Gj157 (gu_up (gu_up (gu_up (gu_up Gj157 0 36 ((Gj157 0 36) + (((x157_13 - (x157_14 * (Gj157 0 35))) - (p5 * (Gj157 0 36))) / (G 3 2)))) 0 35 ((Gj157 0 35) + ((Gj157 0 36) + (((x157_13 - (x157_14 * (Gj157 0 35))) - (p5 * (Gj157 0 36))) / (G 3 2))))) 21 1 ((Gj157 21 1) + 1)) 21 3 y13) from (gu_un.up (j := 21) (k := 3) (v := y13) (gu_un.up (j := 21) (k := 1) (v := ((Gj157 21 1) + 1)) (gu_un.up (j := 0) (k := 35) (v := ((Gj157 0 35) + ((Gj157 0 36) + (((x157_13 - (x157_14 * (Gj157 0 35))) - (p5 * (Gj157 0 36))) / (G 3 2))))) (gu_un.up (j := 0) (k := 36) (v := ((Gj157 0 36) + (((x157_13 - (x157_14 * (Gj157 0 35))) - (p5 * (Gj157 0 36))) / (G 3 2)))) gu_un.rf (show (37 : Nat) ∈ ([36, 37, 2100] : List Nat) by decide)) (show (36 : Nat) ∈ ([36, 37, 2100] : List Nat) by decide)) (show (2100 : Nat) ∈ ([36, 37, 2100] : List Nat) by decide)) (show (2100 : Nat) ∈ ([36, 37, 2100] : List Nat) by decide))) 15 k_ (by simp [ycd])).trans (nl157 h9).1, (show (gu_up (gu_up (gu_up (gu_up Gj157 0 36 ((Gj157 0 36) + (((x157_13 - (x157_14 * (Gj157 0 35))) - (p5 * (Gj157 0 36))) / (G 3 2)))) 0 35 ((Gj157 0 35) + ((Gj157 0 36) + (((x157_13 - (x157_14 * (Gj157 0 35))) - (p5 * (Gj157 0 36))) / (G 3 2))))) 21 1 ((Gj157 21 1) + 1)) 21 3 y13) 16 = Gj157 16 from funext fun k_ => (show gu_un ycd [36, 37, 2100] Gj157 (gu_up (gu_up (gu_up (gu_up Gj157 0 36 ((Gj157 0 36) + (((x157_13 - (x157_14 * (Gj157 0 35))) - (p5 * (Gj157 0 36))) / (G 3 2)))) 0 35 ((Gj157 0 35) + ((Gj157 0 36) + (((x157_13 - (x157_14 * (Gj157 0 35))) - (p5 * (Gj157 0 36))) / (G 3 2))))) 21 1 ((Gj157 21 1) + 1)) 21 3 y13) from (gu_un.up (j := 21) (k := 3) (v := y13) (gu_un.up (j := 21) (k := 1) (v := ((Gj157 21 1) + 1)) (gu_un.up (j := 0) (k := 35) (v := ((Gj157 0 35) + ((Gj157 0 36) + (((x157_13 - (x157_14 * (Gj157 0 35))) - (p5 * (Gj157 0 36))) / (G 3 2))))) (gu_un.up (j := 0) (k := 36) (v := ((Gj157 0 36) + (((x157_13 - (x157_14 * (Gj157 0 35))) - (p5 * (Gj157 0 36))) / (G 3 2)))) gu_un.rf (show (37 : Nat) ∈ ([36, 37, 2100] : List Nat) by decide)) (show (36 : Nat) ∈ ([36, 37, 2100] : List Nat) by decide)) (show (2100 : Nat) ∈ ([36, 37, 2100] : List Nat) by decide)) (show (2100 : Nat) ∈ ([36, 37, 2100] : List Nat) by decide))) 16 k_ (by simp [ycd])).trans (nl157 h9).2.1, (show (gu_up (gu_up (gu_up (gu_up Gj157 0 36 ((Gj157 0 36) + (((x157_13 - (x157_14 * (Gj157 0 35))) - (p5 * (Gj157 0 36))) / (G 3 2)))) 0 35 ((Gj157 0 35) + ((Gj157 0 36) + (((x157_13 - (x157_14 * (Gj157 0 35))) - (p5 * (Gj157 0 36))) / (G 3 2))))) 21 1 ((Gj157 21 1) + 1)) 21 3 y13) 17 = Gj157 17 from funext fun k_ => (show gu_un ycd [36, 37, 2100] Gj157 (gu_up (gu_up (gu_up (gu_up Gj157 0 36 ((Gj157 0 36) + (((x157_13 - (x157_14 * (Gj157 0 35))) - (p5 * (Gj157 0 36))) / (G 3 2)))) 0 35 ((Gj157 0 35) + ((Gj157 0 36) + (((x157_13 - (x157_14 * (Gj157 0 35))) - (p5 * (Gj157 0 36))) / (G 3 2))))) 21 1 ((Gj157 21 1) + 1)) 21 3 y13) from (gu_un.up (j := 21) (k := 3) (v := y13) (gu_un.up (j := 21) (k := 1) (v := ((Gj157 21 1) + 1)) (gu_un.up (j := 0) (k := 35) (v := ((Gj157 0 35) + ((Gj157 0 36) + (((x157_13 - (x157_14 * (Gj157 0 35))) - (p5 * (Gj157 0 36))) / (G 3 2))))) (gu_un.up (j := 0) (k := 36) (v := ((Gj157 0 36) + (((x157_13 - (x157_14 * (Gj157 0 35))) - (p5 * (Gj157 0 36))) / (G 3 2)))) gu_un.rf (show (37 : Nat) ∈ ([36, 37, 2100] : List Nat) by decide)) (show (36 : Nat) ∈ ([36, 37, 2100] : List Nat) by decide)) (show (2100 : Nat) ∈ ([36, 37, 2100] : List Nat) by decide)) (show (2100 : Nat) ∈ ([36, 37, 2100] : List Nat) by decide))) 17 k_ (by simp [ycd])).trans (nl157 h9).2.2.1, (show (gu_up (gu_up (gu_up (gu_up Gj157 0 36 ((Gj157 0 36) + (((x157_13 - (x157_14 * (Gj157 0 35))) - (p5 * (Gj157 0 36))) / (G 3 2)))) 0 35 ((Gj157 0 35) + ((Gj157 0 36) + (((x157_13 - (x157_14 * (Gj157 0 35))) - (p5 * (Gj157 0 36))) / (G 3 2))))) 21 1 ((Gj157 21 1) + 1)) 21 3 y13) 18 = Gj157 18 from funext fun k_ => (show gu_un ycd [36, 37, 2100] Gj157 (gu_up (gu_up (gu_up (gu_up Gj157 0 36 ((Gj157 0 36) + (((x157_13 - (x157_14 * (Gj157 0 35))) - (p5 * (Gj157 0 36))) / (G 3 2)))) 0 35 ((Gj157 0 35) + ((Gj157 0 36) + (((x157_13 - (x157_14 * (Gj157 0 35))) - (p5 * (Gj157 0 36))) / (G 3 2))))) 21 1 ((Gj157 21 1) + 1)) 21 3 y13) from (gu_un.up (j := 21) (k := 3) (v := y13) (gu_un.up (j := 21) (k := 1) (v := ((Gj157 21 1) + 1)) (gu_un.up (j := 0) (k := 35) (v := ((Gj157 0 35) + ((Gj157 0 36) + (((x157_13 - (x157_14 * (Gj157 0 35))) - (p5 * (Gj157 0 36))) / (G 3 2))))) (gu_un.up (j := 0) (k := 36) (v := ((Gj157 0 36) + (((x157_13 - (x157_14 * (Gj157 0 35))) - (p5 * (Gj157 0 36))) / (G 3 2)))) gu_un.rf (show (37 : Nat) ∈ ([36, 37, 2100] : List Nat) by decide)) (show (36 : Nat) ∈ ([36, 37, 2100] : List Nat) by decide)) (show (2100 : Nat) ∈ ([36, 37, 2100] : List Nat) by decide)) (show (2100 : Nat) ∈ ([36, 37, 2100] : List Nat) by decide))) 18 k_ (by simp [ycd])).trans (nl157 h9).2.2.2⟩) (by have e9_0_35 : (gu_up (gu_up (gu_up (gu_up Gj157 0 36 ((Gj157 0 36) + (((x157_13 - (x157_14 * (Gj157 0 35))) - (p5 * (Gj157 0 36))) / (G 3 2)))) 0 35 ((Gj157 0 35) + ((Gj157 0 36) + (((x157_13 - (x157_14 * (Gj157 0 35))) - (p5 * (Gj157 0 36))) / (G 3 2))))) 21 1 ((Gj157 21 1) + 1)) 21 3 y13) 0 35 = ((Gj157 0 35) + ((Gj157 0 36) + (((x157_13 - (x157_14 * (Gj157 0 35))) - (p5 * (Gj157 0 36))) / (G 3 2)))) := rfl; have e9_0_36 : (gu_up (gu_up (gu_up (gu_up Gj157 0 36 ((Gj157 0 36) + (((x157_13 - (x157_14 * (Gj157 0 35))) - (p5 * (Gj157 0 36))) / (G 3 2)))) 0 35 ((Gj157 0 35) + ((Gj157 0 36) + (((x157_13 - (x157_14 * (Gj157 0 35))) - (p5 * (Gj157 0 36))) / (G 3 2))))) 21 1 ((Gj157 21 1) + 1)) 21 3 y13) 0 36 = ((Gj157 0 36) + (((x157_13 - (x157_14 * (Gj157 0 35))) - (p5 * (Gj157 0 36))) / (G 3 2))) := rfl; (try simp only [e9_0_35, e9_0_36, true_and, and_true]) <;> (first | omega | (simp only [Int32.reduceToInt, true_and, and_true, ne_eq, not_true_eq_false, false_and, or_false, false_or, true_or, or_true, false_implies] <;> omega))) (by omega) (by (first | omega | (simp only [Int32.reduceToInt, true_and, and_true, ne_eq, not_true_eq_false, false_and, or_false, false_or, true_or, or_true, false_implies] <;> omega)))
                · refine g_iconst F 1 dX13_go_275 (by decide) ?_
                  refine g_goto F 280 dX13_go_276 (by decide) ?_
                  refine g_istore F [(11, .int 1), (0, .ref (a 0)), (1, .int p0), (2, .int p1), (3, .int p2), (4, .int p3), (5, .int p4), (6, .int p5), (7, .int p6), (8, .int x62_8), (9, .int x62_9), (10, .int (G 3 0)), (12, .int x62_12), (13, .int x157_13), (14, .int x157_14), (15, .int x157_15)] dX13_go_280 (by decide) rfl ?_
                  refine u_iinc F (fun v_ => [(15, .int v_), (11, .int 1), (0, .ref (a 0)), (1, .int p0), (2, .int p1), (3, .int p2), (4, .int p3), (5, .int p4), (6, .int p5), (7, .int p6), (8, .int x62_8), (9, .int x62_9), (10, .int (G 3 0)), (12, .int x62_12), (13, .int x157_13), (14, .int x157_14)]) dX13_go_282 (j := 15) rfl x157_15.toInt (-1) rfl rfl (by omega) (by omega) (by decide) (fun _ => rfl) (fun y20 ey20 => ?_)
                  refine g_goto F 157 dX13_go_285 (by decide) ?_
                  refine g_locals [(0, .ref (a 0)), (1, .int p0), (2, .int p1), (3, .int p2), (4, .int p3), (5, .int p4), (6, .int p5), (7, .int p6), (8, .int x62_8), (9, .int x62_9), (10, .int (G 3 0)), (11, .int 1), (12, .int x62_12), (13, .int x157_13), (14, .int x157_14), (15, .int y20)] [2, 3, 4, 5, 6, 7, 8, 9, 10, 11, 12, 1, 13, 14, 15, 0] rfl ?_
                  exact ih_157 1 x157_13 x157_14 y20 (gu_up (gu_up (gu_up (gu_up Gj157 0 36 ((Gj157 0 36) + (((x157_13 - (x157_14 * (Gj157 0 35))) - (p5 * (Gj157 0 36))) / (G 3 2)))) 0 35 ((Gj157 0 35) + ((Gj157 0 36) + (((x157_13 - (x157_14 * (Gj157 0 35))) - (p5 * (Gj157 0 36))) / (G 3 2))))) 21 1 ((Gj157 21 1) + 1)) 21 3 y13) (by omega) (by decide) (by have h9 := ti_rng x62_12; omega) (by have h9 := ti_rng x157_13; omega) (by have h9 := ti_rng x157_14; omega) (by have h9 := ti_rng y20; omega) (gu_I.up (j := 21) (k := 3) (v := y13) (gu_I.up (j := 21) (k := 1) (v := ((Gj157 21 1) + 1)) (gu_I.up (j := 0) (k := 35) (v := ((Gj157 0 35) + ((Gj157 0 36) + (((x157_13 - (x157_14 * (Gj157 0 35))) - (p5 * (Gj157 0 36))) / (G 3 2))))) (gu_I.up (j := 0) (k := 36) (v := ((Gj157 0 36) + (((x157_13 - (x157_14 * (Gj157 0 35))) - (p5 * (Gj157 0 36))) / (G 3 2)))) jI157 (ti_rng _).1 (ti_rng _).2) (ti_rng _).1 (ti_rng _).2) (ti_rng _).1 (ti_rng _).2) (ti_rng _).1 (ti_rng _).2) (gu_un.up (j := 21) (k := 3) (v := y13) (gu_un.up (j := 21) (k := 1) (v := ((Gj157 21 1) + 1)) (gu_un.up (j := 0) (k := 35) (v := ((Gj157 0 35) + ((Gj157 0 36) + (((x157_13 - (x157_14 * (Gj157 0 35))) - (p5 * (Gj157 0 36))) / (G 3 2))))) (gu_un.up (j := 0) (k := 36) (v := ((Gj157 0 36) + (((x157_13 - (x157_14 * (Gj157 0 35))) - (p5 * (Gj157 0 36))) / (G 3 2)))) (gu_un.tr gu_un.rf (gu_un.su jU157 rfl)) (show (37 : Nat) ∈ ([29, 36, 37, 1300, 1400, 1500, 1600, 1700, 1800, 2100] : List Nat) by decide)) (show (36 : Nat) ∈ ([29, 36, 37, 1300, 1400, 1500, 1600, 1700, 1800, 2100] : List Nat) by decide)) (show (2100 : Nat) ∈ ([29, 36, 37, 1300, 1400, 1500, 1600, 1700, 1800, 2100] : List Nat) by decide)) (show (2100 : Nat) ∈ ([29, 36, 37, 1300, 1400, 1500, 1600, 1700, 1800, 2100] : List Nat) by decide)) (bt157) (ho157) (fun Q S hq hs => swR.step (n := ((p1 + G 7 (x62_12.toInt % (G 3 11).toInt).toNat).toInt - x157_15.toInt).toNat) (x' := ((Gj157 0 35) + ((Gj157 0 36) + (((x157_13 - (x157_14 * (Gj157 0 35))) - (p5 * (Gj157 0 36))) / (G 3 2))))) (v' := ((Gj157 0 36) + (((x157_13 - (x157_14 * (Gj157 0 35))) - (p5 * (Gj157 0 36))) / (G 3 2)))) (pk' := y13) (tm' := ((Gj157 21 1) + 1)) (sw157 Q S hq hs) (by omega) (by rw [hq.1, hq.2.2]) rfl (by unfold psA; split <;> omega) rfl (by rw [hq.2.1]; first | exact Or.inl ⟨rfl, by unfold psA; split <;> omega⟩ | exact Or.inr ⟨rfl, by unfold psA; split <;> omega⟩) (by omega)) ((show (gu_up (gu_up (gu_up (gu_up Gj157 0 36 ((Gj157 0 36) + (((x157_13 - (x157_14 * (Gj157 0 35))) - (p5 * (Gj157 0 36))) / (G 3 2)))) 0 35 ((Gj157 0 35) + ((Gj157 0 36) + (((x157_13 - (x157_14 * (Gj157 0 35))) - (p5 * (Gj157 0 36))) / (G 3 2))))) 21 1 ((Gj157 21 1) + 1)) 21 3 y13) 21 6 = Gj157 21 6 from rfl).trans bg157) (yOt.tr ot157 (yOt.un (show gu_un ycd [36, 37, 2100] Gj157 (gu_up (gu_up (gu_up (gu_up Gj157 0 36 ((Gj157 0 36) + (((x157_13 - (x157_14 * (Gj157 0 35))) - (p5 * (Gj157 0 36))) / (G 3 2)))) 0 35 ((Gj157 0 35) + ((Gj157 0 36) + (((x157_13 - (x157_14 * (Gj157 0 35))) - (p5 * (Gj157 0 36))) / (G 3 2))))) 21 1 ((Gj157 21 1) + 1)) 21 3 y13) from (gu_un.up (j := 21) (k := 3) (v := y13) (gu_un.up (j := 21) (k := 1) (v := ((Gj157 21 1) + 1)) (gu_un.up (j := 0) (k := 35) (v := ((Gj157 0 35) + ((Gj157 0 36) + (((x157_13 - (x157_14 * (Gj157 0 35))) - (p5 * (Gj157 0 36))) / (G 3 2))))) (gu_un.up (j := 0) (k := 36) (v := ((Gj157 0 36) + (((x157_13 - (x157_14 * (Gj157 0 35))) - (p5 * (Gj157 0 36))) / (G 3 2)))) gu_un.rf (show (37 : Nat) ∈ ([36, 37, 2100] : List Nat) by decide)) (show (36 : Nat) ∈ ([36, 37, 2100] : List Nat) by decide)) (show (2100 : Nat) ∈ ([36, 37, 2100] : List Nat) by decide)) (show (2100 : Nat) ∈ ([36, 37, 2100] : List Nat) by decide))) rfl)) (fun h9 => ⟨(show (gu_up (gu_up (gu_up (gu_up Gj157 0 36 ((Gj157 0 36) + (((x157_13 - (x157_14 * (Gj157 0 35))) - (p5 * (Gj157 0 36))) / (G 3 2)))) 0 35 ((Gj157 0 35) + ((Gj157 0 36) + (((x157_13 - (x157_14 * (Gj157 0 35))) - (p5 * (Gj157 0 36))) / (G 3 2))))) 21 1 ((Gj157 21 1) + 1)) 21 3 y13) 15 = Gj157 15 from funext fun k_ => (show gu_un ycd [36, 37, 2100] Gj157 (gu_up (gu_up (gu_up (gu_up Gj157 0 36 ((Gj157 0 36) + (((x157_13 - (x157_14 * (Gj157 0 35))) - (p5 * (Gj157 0 36))) / (G 3 2)))) 0 35 ((Gj157 0 35) + ((Gj157 0 36) + (((x157_13 - (x157_14 * (Gj157 0 35))) - (p5 * (Gj157 0 36))) / (G 3 2))))) 21 1 ((Gj157 21 1) + 1)) 21 3 y13) from (gu_un.up (j := 21) (k := 3) (v := y13) (gu_un.up (j := 21) (k := 1) (v := ((Gj157 21 1) + 1)) (gu_un.up (j := 0) (k := 35) (v := ((Gj157 0 35) + ((Gj157 0 36) + (((x157_13 - (x157_14 * (Gj157 0 35))) - (p5 * (Gj157 0 36))) / (G 3 2))))) (gu_un.up (j := 0) (k := 36) (v := ((Gj157 0 36) + (((x157_13 - (x157_14 * (Gj157 0 35))) - (p5 * (Gj157 0 36))) / (G 3 2)))) gu_un.rf (show (37 : Nat) ∈ ([36, 37, 2100] : List Nat) by decide)) (show (36 : Nat) ∈ ([36, 37, 2100] : List Nat) by decide)) (show (2100 : Nat) ∈ ([36, 37, 2100] : List Nat) by decide)) (show (2100 : Nat) ∈ ([36, 37, 2100] : List Nat) by decide))) 15 k_ (by simp [ycd])).trans (nl157 h9).1, (show (gu_up (gu_up (gu_up (gu_up Gj157 0 36 ((Gj157 0 36) + (((x157_13 - (x157_14 * (Gj157 0 35))) - (p5 * (Gj157 0 36))) / (G 3 2)))) 0 35 ((Gj157 0 35) + ((Gj157 0 36) + (((x157_13 - (x157_14 * (Gj157 0 35))) - (p5 * (Gj157 0 36))) / (G 3 2))))) 21 1 ((Gj157 21 1) + 1)) 21 3 y13) 16 = Gj157 16 from funext fun k_ => (show gu_un ycd [36, 37, 2100] Gj157 (gu_up (gu_up (gu_up (gu_up Gj157 0 36 ((Gj157 0 36) + (((x157_13 - (x157_14 * (Gj157 0 35))) - (p5 * (Gj157 0 36))) / (G 3 2)))) 0 35 ((Gj157 0 35) + ((Gj157 0 36) + (((x157_13 - (x157_14 * (Gj157 0 35))) - (p5 * (Gj157 0 36))) / (G 3 2))))) 21 1 ((Gj157 21 1) + 1)) 21 3 y13) from (gu_un.up (j := 21) (k := 3) (v := y13) (gu_un.up (j := 21) (k := 1) (v := ((Gj157 21 1) + 1)) (gu_un.up (j := 0) (k := 35) (v := ((Gj157 0 35) + ((Gj157 0 36) + (((x157_13 - (x157_14 * (Gj157 0 35))) - (p5 * (Gj157 0 36))) / (G 3 2))))) (gu_un.up (j := 0) (k := 36) (v := ((Gj157 0 36) + (((x157_13 - (x157_14 * (Gj157 0 35))) - (p5 * (Gj157 0 36))) / (G 3 2)))) gu_un.rf (show (37 : Nat) ∈ ([36, 37, 2100] : List Nat) by decide)) (show (36 : Nat) ∈ ([36, 37, 2100] : List Nat) by decide)) (show (2100 : Nat) ∈ ([36, 37, 2100] : List Nat) by decide)) (show (2100 : Nat) ∈ ([36, 37, 2100] : List Nat) by decide))) 16 k_ (by simp [ycd])).trans (nl157 h9).2.1, (show (gu_up (gu_up (gu_up (gu_up Gj157 0 36 ((Gj157 0 36) + (((x157_13 - (x157_14 * (Gj157 0 35))) - (p5 * (Gj157 0 36))) / (G 3 2)))) 0 35 ((Gj157 0 35) + ((Gj157 0 36) + (((x157_13 - (x157_14 * (Gj157 0 35))) - (p5 * (Gj157 0 36))) / (G 3 2))))) 21 1 ((Gj157 21 1) + 1)) 21 3 y13) 17 = Gj157 17 from funext fun k_ => (show gu_un ycd [36, 37, 2100] Gj157 (gu_up (gu_up (gu_up (gu_up Gj157 0 36 ((Gj157 0 36) + (((x157_13 - (x157_14 * (Gj157 0 35))) - (p5 * (Gj157 0 36))) / (G 3 2)))) 0 35 ((Gj157 0 35) + ((Gj157 0 36) + (((x157_13 - (x157_14 * (Gj157 0 35))) - (p5 * (Gj157 0 36))) / (G 3 2))))) 21 1 ((Gj157 21 1) + 1)) 21 3 y13) from (gu_un.up (j := 21) (k := 3) (v := y13) (gu_un.up (j := 21) (k := 1) (v := ((Gj157 21 1) + 1)) (gu_un.up (j := 0) (k := 35) (v := ((Gj157 0 35) + ((Gj157 0 36) + (((x157_13 - (x157_14 * (Gj157 0 35))) - (p5 * (Gj157 0 36))) / (G 3 2))))) (gu_un.up (j := 0) (k := 36) (v := ((Gj157 0 36) + (((x157_13 - (x157_14 * (Gj157 0 35))) - (p5 * (Gj157 0 36))) / (G 3 2)))) gu_un.rf (show (37 : Nat) ∈ ([36, 37, 2100] : List Nat) by decide)) (show (36 : Nat) ∈ ([36, 37, 2100] : List Nat) by decide)) (show (2100 : Nat) ∈ ([36, 37, 2100] : List Nat) by decide)) (show (2100 : Nat) ∈ ([36, 37, 2100] : List Nat) by decide))) 17 k_ (by simp [ycd])).trans (nl157 h9).2.2.1, (show (gu_up (gu_up (gu_up (gu_up Gj157 0 36 ((Gj157 0 36) + (((x157_13 - (x157_14 * (Gj157 0 35))) - (p5 * (Gj157 0 36))) / (G 3 2)))) 0 35 ((Gj157 0 35) + ((Gj157 0 36) + (((x157_13 - (x157_14 * (Gj157 0 35))) - (p5 * (Gj157 0 36))) / (G 3 2))))) 21 1 ((Gj157 21 1) + 1)) 21 3 y13) 18 = Gj157 18 from funext fun k_ => (show gu_un ycd [36, 37, 2100] Gj157 (gu_up (gu_up (gu_up (gu_up Gj157 0 36 ((Gj157 0 36) + (((x157_13 - (x157_14 * (Gj157 0 35))) - (p5 * (Gj157 0 36))) / (G 3 2)))) 0 35 ((Gj157 0 35) + ((Gj157 0 36) + (((x157_13 - (x157_14 * (Gj157 0 35))) - (p5 * (Gj157 0 36))) / (G 3 2))))) 21 1 ((Gj157 21 1) + 1)) 21 3 y13) from (gu_un.up (j := 21) (k := 3) (v := y13) (gu_un.up (j := 21) (k := 1) (v := ((Gj157 21 1) + 1)) (gu_un.up (j := 0) (k := 35) (v := ((Gj157 0 35) + ((Gj157 0 36) + (((x157_13 - (x157_14 * (Gj157 0 35))) - (p5 * (Gj157 0 36))) / (G 3 2))))) (gu_un.up (j := 0) (k := 36) (v := ((Gj157 0 36) + (((x157_13 - (x157_14 * (Gj157 0 35))) - (p5 * (Gj157 0 36))) / (G 3 2)))) gu_un.rf (show (37 : Nat) ∈ ([36, 37, 2100] : List Nat) by decide)) (show (36 : Nat) ∈ ([36, 37, 2100] : List Nat) by decide)) (show (2100 : Nat) ∈ ([36, 37, 2100] : List Nat) by decide)) (show (2100 : Nat) ∈ ([36, 37, 2100] : List Nat) by decide))) 18 k_ (by simp [ycd])).trans (nl157 h9).2.2.2⟩) (by have e9_0_35 : (gu_up (gu_up (gu_up (gu_up Gj157 0 36 ((Gj157 0 36) + (((x157_13 - (x157_14 * (Gj157 0 35))) - (p5 * (Gj157 0 36))) / (G 3 2)))) 0 35 ((Gj157 0 35) + ((Gj157 0 36) + (((x157_13 - (x157_14 * (Gj157 0 35))) - (p5 * (Gj157 0 36))) / (G 3 2))))) 21 1 ((Gj157 21 1) + 1)) 21 3 y13) 0 35 = ((Gj157 0 35) + ((Gj157 0 36) + (((x157_13 - (x157_14 * (Gj157 0 35))) - (p5 * (Gj157 0 36))) / (G 3 2)))) := rfl; have e9_0_36 : (gu_up (gu_up (gu_up (gu_up Gj157 0 36 ((Gj157 0 36) + (((x157_13 - (x157_14 * (Gj157 0 35))) - (p5 * (Gj157 0 36))) / (G 3 2)))) 0 35 ((Gj157 0 35) + ((Gj157 0 36) + (((x157_13 - (x157_14 * (Gj157 0 35))) - (p5 * (Gj157 0 36))) / (G 3 2))))) 21 1 ((Gj157 21 1) + 1)) 21 3 y13) 0 36 = ((Gj157 0 36) + (((x157_13 - (x157_14 * (Gj157 0 35))) - (p5 * (Gj157 0 36))) / (G 3 2))) := rfl; (try simp only [e9_0_35, e9_0_36, true_and, and_true]) <;> (first | omega | (simp only [Int32.reduceToInt, true_and, and_true, ne_eq, not_true_eq_false, false_and, or_false, false_or, true_or, or_true, false_implies] <;> omega))) (by omega) (by (first | omega | (simp only [Int32.reduceToInt, true_and, and_true, ne_eq, not_true_eq_false, false_and, or_false, false_or, true_or, or_true, false_implies] <;> omega)))
      refine g_iload F 12 dX13_go_62 rfl ?_
      refine g_iload F 10 dX13_go_64 rfl ?_
      refine g_iload F 4 dX13_go_66 rfl ?_
      refine g_imul F dX13_go_68 ?_
      have sm0 := Int.mul_nonneg (show (0 : Int) ≤ (G 3 0).toInt by omega) (show (0 : Int) ≤ s3 by omega)
      have sm1 : (G 3 0).toInt * s3 ≤ 16 * 12 := Int.mul_le_mul (by omega) (by omega) (by omega) (by omega)
      have sm : (((G 3 0) * p3) : Int32).toInt = (G 3 0).toInt * s3 := ti_mul rfl e3 (by omega) (by omega)
      refine v_icmp_ge F 294 dX13_go_69 (by decide) x62_12.toInt (((G 3 0) * p3) : Int32).toInt rfl rfl (fun c21 => ?_) (fun c21 => ?_)
      · refine g_aload_n F 0 dX13_go_294 rfl rfl ?_
        refine yg_0_33 F i_X13 w_3 dX13_go_295 ?_
        refine g_iconst F 0 dX13_go_298 (by decide) ?_
        refine g_aload_n F 0 dX13_go_299 rfl rfl ?_
        refine g_iload_n F 1 dX13_go_300 rfl rfl ?_
        refine u_callVi (k := 0) (n := 0) (b := a 0) (As := [.int p0]) (st := [.int 0, .ref (a 21)]) F (fun sz => S_X13_most l D K a Gj62 p0 s0 e0 (by omega) jI62 sz) (cwV 1 hts gX13_go_X13_most rfl rfl rfl (by decide +kernel) ⟨Nat.le_of_ble_eq_true rfl, Nat.le_of_ble_eq_true rfl⟩) rfl 0 yc_0 rfl (Nat.le_of_ble_eq_true rfl) ⟨Nat.zero_le _, Nat.zero_le _⟩ dX13_go_301 (fun r22 _ hw23 => ?_)
        have q25 : (r22.toInt = psMx (psHr (Gj62 14) s0 (G 3 0).toInt) ((G 3 0).toInt - 1).toNat) := by have h9 := hw23.2; (try simp only [(show Gj62 3 0 = (G 3 0) from jU62 3 0 (by decide)), (show Gj62 3 0 = (G 3 0) from jU62 3 0 (by decide))] at h9); first | exact h9 | omega
        have rg26 := hw23.1
        clear hw23
        refine g_aload_n F 0 dX13_go_304 rfl rfl ?_
        refine g_iload_n F 1 dX13_go_305 rfl rfl ?_
        refine u_callVi (k := 0) (n := 0) (b := a 0) (As := [.int p0]) (st := [.int r22, .int 0, .ref (a 21)]) F (fun sz => S_X13_least l D K a Gj62 p0 s0 e0 (by omega) jI62 sz) (cwV 1 hts gX13_go_X13_least rfl rfl rfl (by decide +kernel) ⟨Nat.le_of_ble_eq_true rfl, Nat.le_of_ble_eq_true rfl⟩) rfl 0 yc_0 rfl (Nat.le_of_ble_eq_true rfl) ⟨Nat.zero_le _, Nat.zero_le _⟩ dX13_go_306 (fun r27 _ hw28 => ?_)
        have q30 : (r27.toInt = psMn (fun q => (Gj62 14) ((16 * s0).toNat + q)) ((G 3 0).toInt - 1).toNat) := by have h9 := hw28.2; (try simp only [(show Gj62 3 0 = (G 3 0) from jU62 3 0 (by decide))] at h9); first | exact h9 | omega
        have rg31 := hw28.1
        clear hw28
        refine u_isub F dX13_go_309 r22.toInt r27.toInt rfl rfl (by omega) (by omega) (fun y32 ey32 => ?_)
        refine u_iast F 21 0 yc_21 rfl 0 rfl (by decide) (by decide) (yW K a (gu_up Gj62 21 0 y32)) (ys_21 _) dX13_go_310 ?_
        refine g_aload_n F 0 dX13_go_311 rfl rfl ?_
        refine yg_0_33 F i_X13 w_3 dX13_go_312 ?_
        refine g_iconst F 4 dX13_go_315 (by decide) ?_
        refine g_aload_n F 0 dX13_go_316 rfl rfl ?_
        refine yg_0_35 F i_X13 w_1 dX13_go_317 (Gj62 0 35) (rfl) ?_
        refine u_iast F 21 0 yc_21 rfl 4 rfl (by decide) (by decide) (yW K a (gu_up (gu_up Gj62 21 0 y32) 21 4 (Gj62 0 35))) (ys_21 _) dX13_go_320 ?_
        refine g_aload_n F 0 dX13_go_321 rfl rfl ?_
        refine yg_0_33 F i_X13 w_3 dX13_go_322 ?_
        refine g_iconst F 5 dX13_go_325 (by decide) ?_
        refine g_aload_n F 0 dX13_go_326 rfl rfl ?_
        refine yg_0_28 F i_X13 w_11 dX13_go_327 (Gj62 0 28) (rfl) ?_
        have b33 : (0 : Int) ≤ (Gj62 0 28).toInt ∧ (Gj62 0 28).toInt ≤ 30000 := jI62 0 28
        refine u_iast F 21 0 yc_21 rfl 5 rfl (by decide) (by decide) (yW K a (gu_up (gu_up (gu_up Gj62 21 0 y32) 21 4 (Gj62 0 35)) 21 5 (Gj62 0 28))) (ys_21 _) dX13_go_330 ?_
        refine g_iload F 11 dX13_go_331 rfl ?_
        refine v_if_eq F 340 dX13_go_333 (by decide) x62_11.toInt rfl (fun c34 => ?_) (fun c34 => ?_)
        · refine g_aload_n F 0 dX13_go_340 rfl rfl ?_
          refine yg_0_33 F i_X13 w_3 dX13_go_341 ?_
          refine g_iconst F 0 dX13_go_344 (by decide) ?_
          refine u1_iald F 21 0 yc_21 rfl 0 rfl (by decide) (by decide) dX13_go_345 y32 (rfl) ?_
          refine g_aload_n F 0 dX13_go_346 rfl rfl ?_
          refine yg_0_10 F i_X13 w_2 dX13_go_347 ?_
          refine g_bipush F 8 dX13_go_350 (by decide) ?_
          refine u1_iald F 3 0 yc_3 rfl 8 rfl (by decide) (by decide) dX13_go_352 (G 3 8) (jU62 3 8 (by decide)) ?_
          refine v_icmp_le F 360 dX13_go_353 (by decide) y32.toInt (G 3 8).toInt rfl rfl (fun c35 => ?_) (fun c35 => ?_)
          · refine g_iconst F 0 dX13_go_360 (by decide) ?_
            exact u_iret F hA hQ hr (gu_up (gu_up (gu_up Gj62 21 0 y32) 21 4 (Gj62 0 35)) 21 5 (Gj62 0 28)) (⟨(gu_I.up (j := 21) (k := 5) (v := (Gj62 0 28)) (gu_I.up (j := 21) (k := 4) (v := (Gj62 0 35)) (gu_I.up (j := 21) (k := 0) (v := y32) jI62 (ti_rng _).1 (ti_rng _).2) (ti_rng _).1 (ti_rng _).2) (ti_rng _).1 (ti_rng _).2), (gu_un.up (j := 21) (k := 5) (v := (Gj62 0 28)) (gu_un.up (j := 21) (k := 4) (v := (Gj62 0 35)) (gu_un.up (j := 21) (k := 0) (v := y32) (gu_un.tr gu_un.rf (gu_un.su jU62 rfl)) (show (2100 : Nat) ∈ ([29, 36, 37, 1300, 1400, 1500, 1600, 1700, 1800, 2100] : List Nat) by decide)) (show (2100 : Nat) ∈ ([29, 36, 37, 1300, 1400, 1500, 1600, 1700, 1800, 2100] : List Nat) by decide)) (show (2100 : Nat) ∈ ([29, 36, 37, 1300, 1400, 1500, 1600, 1700, 1800, 2100] : List Nat) by decide)), (by decide), (⟨x62_8, x62_9, lv62, ga62, (yRl.fin (m := ((G 3 0).toInt * p3.toInt).toNat) (yRl.to (E2 := (gu_up (gu_up (gu_up Gj62 21 0 y32) 21 4 (Gj62 0 35)) 21 5 (Gj62 0 28))) yr62 rfl rfl ⟨rfl, rfl⟩ ⟨rfl, rfl, rfl, rfl⟩ ⟨rfl, rfl, rfl, rfl⟩) (by rw [e3]; omega) (by rw [e3]; first | (left; omega) | (right; omega))).sh (by first | (rw [if_pos (by decide)]; omega) | (rw [if_neg (by decide)]; omega)), (by show y32.toInt = psMx (yHr (Gj62 14) s0) _ - psMn (yHr (Gj62 14) s0) _; have g1 := q25; have g2 := q30; rw [pyMx (by omega)] at g1; rw [pyMn (by omega)] at g2; omega), (by first | exact Or.inl (by decide) | exact Or.inr (Or.inl ⟨by decide, by show (G 3 8).toInt < y32.toInt; omega⟩) | exact Or.inr (Or.inr ⟨by decide, by show y32.toInt ≤ (G 3 8).toInt; omega⟩)), rfl, rfl⟩), (yOt.tr ot62 (yOt.un (show gu_un ycd [2100] Gj62 (gu_up (gu_up (gu_up Gj62 21 0 y32) 21 4 (Gj62 0 35)) 21 5 (Gj62 0 28)) from (gu_un.up (j := 21) (k := 5) (v := (Gj62 0 28)) (gu_un.up (j := 21) (k := 4) (v := (Gj62 0 35)) (gu_un.up (j := 21) (k := 0) (v := y32) gu_un.rf (show (2100 : Nat) ∈ ([2100] : List Nat) by decide)) (show (2100 : Nat) ∈ ([2100] : List Nat) by decide)) (show (2100 : Nat) ∈ ([2100] : List Nat) by decide))) rfl)), (fun h9 => ⟨(show (gu_up (gu_up (gu_up Gj62 21 0 y32) 21 4 (Gj62 0 35)) 21 5 (Gj62 0 28)) 15 = Gj62 15 from funext fun k_ => (show gu_un ycd [2100] Gj62 (gu_up (gu_up (gu_up Gj62 21 0 y32) 21 4 (Gj62 0 35)) 21 5 (Gj62 0 28)) from (gu_un.up (j := 21) (k := 5) (v := (Gj62 0 28)) (gu_un.up (j := 21) (k := 4) (v := (Gj62 0 35)) (gu_un.up (j := 21) (k := 0) (v := y32) gu_un.rf (show (2100 : Nat) ∈ ([2100] : List Nat) by decide)) (show (2100 : Nat) ∈ ([2100] : List Nat) by decide)) (show (2100 : Nat) ∈ ([2100] : List Nat) by decide))) 15 k_ (by simp [ycd])).trans (nl62 h9).1, (show (gu_up (gu_up (gu_up Gj62 21 0 y32) 21 4 (Gj62 0 35)) 21 5 (Gj62 0 28)) 16 = Gj62 16 from funext fun k_ => (show gu_un ycd [2100] Gj62 (gu_up (gu_up (gu_up Gj62 21 0 y32) 21 4 (Gj62 0 35)) 21 5 (Gj62 0 28)) from (gu_un.up (j := 21) (k := 5) (v := (Gj62 0 28)) (gu_un.up (j := 21) (k := 4) (v := (Gj62 0 35)) (gu_un.up (j := 21) (k := 0) (v := y32) gu_un.rf (show (2100 : Nat) ∈ ([2100] : List Nat) by decide)) (show (2100 : Nat) ∈ ([2100] : List Nat) by decide)) (show (2100 : Nat) ∈ ([2100] : List Nat) by decide))) 16 k_ (by simp [ycd])).trans (nl62 h9).2.1, (show (gu_up (gu_up (gu_up Gj62 21 0 y32) 21 4 (Gj62 0 35)) 21 5 (Gj62 0 28)) 17 = Gj62 17 from funext fun k_ => (show gu_un ycd [2100] Gj62 (gu_up (gu_up (gu_up Gj62 21 0 y32) 21 4 (Gj62 0 35)) 21 5 (Gj62 0 28)) from (gu_un.up (j := 21) (k := 5) (v := (Gj62 0 28)) (gu_un.up (j := 21) (k := 4) (v := (Gj62 0 35)) (gu_un.up (j := 21) (k := 0) (v := y32) gu_un.rf (show (2100 : Nat) ∈ ([2100] : List Nat) by decide)) (show (2100 : Nat) ∈ ([2100] : List Nat) by decide)) (show (2100 : Nat) ∈ ([2100] : List Nat) by decide))) 17 k_ (by simp [ycd])).trans (nl62 h9).2.2.1, (show (gu_up (gu_up (gu_up Gj62 21 0 y32) 21 4 (Gj62 0 35)) 21 5 (Gj62 0 28)) 18 = Gj62 18 from funext fun k_ => (show gu_un ycd [2100] Gj62 (gu_up (gu_up (gu_up Gj62 21 0 y32) 21 4 (Gj62 0 35)) 21 5 (Gj62 0 28)) from (gu_un.up (j := 21) (k := 5) (v := (Gj62 0 28)) (gu_un.up (j := 21) (k := 4) (v := (Gj62 0 35)) (gu_un.up (j := 21) (k := 0) (v := y32) gu_un.rf (show (2100 : Nat) ∈ ([2100] : List Nat) by decide)) (show (2100 : Nat) ∈ ([2100] : List Nat) by decide)) (show (2100 : Nat) ∈ ([2100] : List Nat) by decide))) 18 k_ (by simp [ycd])).trans (nl62 h9).2.2.2⟩)⟩) rfl rfl dX13_go_361
          · refine g_iconst F 1 dX13_go_356 (by decide) ?_
            refine g_goto F 361 dX13_go_357 (by decide) ?_
            exact u_iret F hA hQ hr (gu_up (gu_up (gu_up Gj62 21 0 y32) 21 4 (Gj62 0 35)) 21 5 (Gj62 0 28)) (⟨(gu_I.up (j := 21) (k := 5) (v := (Gj62 0 28)) (gu_I.up (j := 21) (k := 4) (v := (Gj62 0 35)) (gu_I.up (j := 21) (k := 0) (v := y32) jI62 (ti_rng _).1 (ti_rng _).2) (ti_rng _).1 (ti_rng _).2) (ti_rng _).1 (ti_rng _).2), (gu_un.up (j := 21) (k := 5) (v := (Gj62 0 28)) (gu_un.up (j := 21) (k := 4) (v := (Gj62 0 35)) (gu_un.up (j := 21) (k := 0) (v := y32) (gu_un.tr gu_un.rf (gu_un.su jU62 rfl)) (show (2100 : Nat) ∈ ([29, 36, 37, 1300, 1400, 1500, 1600, 1700, 1800, 2100] : List Nat) by decide)) (show (2100 : Nat) ∈ ([29, 36, 37, 1300, 1400, 1500, 1600, 1700, 1800, 2100] : List Nat) by decide)) (show (2100 : Nat) ∈ ([29, 36, 37, 1300, 1400, 1500, 1600, 1700, 1800, 2100] : List Nat) by decide)), (by decide), (⟨x62_8, x62_9, lv62, ga62, (yRl.fin (m := ((G 3 0).toInt * p3.toInt).toNat) (yRl.to (E2 := (gu_up (gu_up (gu_up Gj62 21 0 y32) 21 4 (Gj62 0 35)) 21 5 (Gj62 0 28))) yr62 rfl rfl ⟨rfl, rfl⟩ ⟨rfl, rfl, rfl, rfl⟩ ⟨rfl, rfl, rfl, rfl⟩) (by rw [e3]; omega) (by rw [e3]; first | (left; omega) | (right; omega))).sh (by first | (rw [if_pos (by decide)]; omega) | (rw [if_neg (by decide)]; omega)), (by show y32.toInt = psMx (yHr (Gj62 14) s0) _ - psMn (yHr (Gj62 14) s0) _; have g1 := q25; have g2 := q30; rw [pyMx (by omega)] at g1; rw [pyMn (by omega)] at g2; omega), (by first | exact Or.inl (by decide) | exact Or.inr (Or.inl ⟨by decide, by show (G 3 8).toInt < y32.toInt; omega⟩) | exact Or.inr (Or.inr ⟨by decide, by show y32.toInt ≤ (G 3 8).toInt; omega⟩)), rfl, rfl⟩), (yOt.tr ot62 (yOt.un (show gu_un ycd [2100] Gj62 (gu_up (gu_up (gu_up Gj62 21 0 y32) 21 4 (Gj62 0 35)) 21 5 (Gj62 0 28)) from (gu_un.up (j := 21) (k := 5) (v := (Gj62 0 28)) (gu_un.up (j := 21) (k := 4) (v := (Gj62 0 35)) (gu_un.up (j := 21) (k := 0) (v := y32) gu_un.rf (show (2100 : Nat) ∈ ([2100] : List Nat) by decide)) (show (2100 : Nat) ∈ ([2100] : List Nat) by decide)) (show (2100 : Nat) ∈ ([2100] : List Nat) by decide))) rfl)), (fun h9 => ⟨(show (gu_up (gu_up (gu_up Gj62 21 0 y32) 21 4 (Gj62 0 35)) 21 5 (Gj62 0 28)) 15 = Gj62 15 from funext fun k_ => (show gu_un ycd [2100] Gj62 (gu_up (gu_up (gu_up Gj62 21 0 y32) 21 4 (Gj62 0 35)) 21 5 (Gj62 0 28)) from (gu_un.up (j := 21) (k := 5) (v := (Gj62 0 28)) (gu_un.up (j := 21) (k := 4) (v := (Gj62 0 35)) (gu_un.up (j := 21) (k := 0) (v := y32) gu_un.rf (show (2100 : Nat) ∈ ([2100] : List Nat) by decide)) (show (2100 : Nat) ∈ ([2100] : List Nat) by decide)) (show (2100 : Nat) ∈ ([2100] : List Nat) by decide))) 15 k_ (by simp [ycd])).trans (nl62 h9).1, (show (gu_up (gu_up (gu_up Gj62 21 0 y32) 21 4 (Gj62 0 35)) 21 5 (Gj62 0 28)) 16 = Gj62 16 from funext fun k_ => (show gu_un ycd [2100] Gj62 (gu_up (gu_up (gu_up Gj62 21 0 y32) 21 4 (Gj62 0 35)) 21 5 (Gj62 0 28)) from (gu_un.up (j := 21) (k := 5) (v := (Gj62 0 28)) (gu_un.up (j := 21) (k := 4) (v := (Gj62 0 35)) (gu_un.up (j := 21) (k := 0) (v := y32) gu_un.rf (show (2100 : Nat) ∈ ([2100] : List Nat) by decide)) (show (2100 : Nat) ∈ ([2100] : List Nat) by decide)) (show (2100 : Nat) ∈ ([2100] : List Nat) by decide))) 16 k_ (by simp [ycd])).trans (nl62 h9).2.1, (show (gu_up (gu_up (gu_up Gj62 21 0 y32) 21 4 (Gj62 0 35)) 21 5 (Gj62 0 28)) 17 = Gj62 17 from funext fun k_ => (show gu_un ycd [2100] Gj62 (gu_up (gu_up (gu_up Gj62 21 0 y32) 21 4 (Gj62 0 35)) 21 5 (Gj62 0 28)) from (gu_un.up (j := 21) (k := 5) (v := (Gj62 0 28)) (gu_un.up (j := 21) (k := 4) (v := (Gj62 0 35)) (gu_un.up (j := 21) (k := 0) (v := y32) gu_un.rf (show (2100 : Nat) ∈ ([2100] : List Nat) by decide)) (show (2100 : Nat) ∈ ([2100] : List Nat) by decide)) (show (2100 : Nat) ∈ ([2100] : List Nat) by decide))) 17 k_ (by simp [ycd])).trans (nl62 h9).2.2.1, (show (gu_up (gu_up (gu_up Gj62 21 0 y32) 21 4 (Gj62 0 35)) 21 5 (Gj62 0 28)) 18 = Gj62 18 from funext fun k_ => (show gu_un ycd [2100] Gj62 (gu_up (gu_up (gu_up Gj62 21 0 y32) 21 4 (Gj62 0 35)) 21 5 (Gj62 0 28)) from (gu_un.up (j := 21) (k := 5) (v := (Gj62 0 28)) (gu_un.up (j := 21) (k := 4) (v := (Gj62 0 35)) (gu_un.up (j := 21) (k := 0) (v := y32) gu_un.rf (show (2100 : Nat) ∈ ([2100] : List Nat) by decide)) (show (2100 : Nat) ∈ ([2100] : List Nat) by decide)) (show (2100 : Nat) ∈ ([2100] : List Nat) by decide))) 18 k_ (by simp [ycd])).trans (nl62 h9).2.2.2⟩)⟩) rfl rfl dX13_go_361
        · refine g_iconst F 2 dX13_go_336 (by decide) ?_
          refine g_goto F 361 dX13_go_337 (by decide) ?_
          exact u_iret F hA hQ hr (gu_up (gu_up (gu_up Gj62 21 0 y32) 21 4 (Gj62 0 35)) 21 5 (Gj62 0 28)) (⟨(gu_I.up (j := 21) (k := 5) (v := (Gj62 0 28)) (gu_I.up (j := 21) (k := 4) (v := (Gj62 0 35)) (gu_I.up (j := 21) (k := 0) (v := y32) jI62 (ti_rng _).1 (ti_rng _).2) (ti_rng _).1 (ti_rng _).2) (ti_rng _).1 (ti_rng _).2), (gu_un.up (j := 21) (k := 5) (v := (Gj62 0 28)) (gu_un.up (j := 21) (k := 4) (v := (Gj62 0 35)) (gu_un.up (j := 21) (k := 0) (v := y32) (gu_un.tr gu_un.rf (gu_un.su jU62 rfl)) (show (2100 : Nat) ∈ ([29, 36, 37, 1300, 1400, 1500, 1600, 1700, 1800, 2100] : List Nat) by decide)) (show (2100 : Nat) ∈ ([29, 36, 37, 1300, 1400, 1500, 1600, 1700, 1800, 2100] : List Nat) by decide)) (show (2100 : Nat) ∈ ([29, 36, 37, 1300, 1400, 1500, 1600, 1700, 1800, 2100] : List Nat) by decide)), (by decide), (⟨x62_8, x62_9, lv62, ga62, (yRl.fin (m := ((G 3 0).toInt * p3.toInt).toNat) (yRl.to (E2 := (gu_up (gu_up (gu_up Gj62 21 0 y32) 21 4 (Gj62 0 35)) 21 5 (Gj62 0 28))) yr62 rfl rfl ⟨rfl, rfl⟩ ⟨rfl, rfl, rfl, rfl⟩ ⟨rfl, rfl, rfl, rfl⟩) (by rw [e3]; omega) (by rw [e3]; first | (left; omega) | (right; omega))).sh (by first | (rw [if_pos (by decide)]; omega) | (rw [if_neg (by decide)]; omega)), (by show y32.toInt = psMx (yHr (Gj62 14) s0) _ - psMn (yHr (Gj62 14) s0) _; have g1 := q25; have g2 := q30; rw [pyMx (by omega)] at g1; rw [pyMn (by omega)] at g2; omega), (by first | exact Or.inl (by decide) | exact Or.inr (Or.inl ⟨by decide, by show (G 3 8).toInt < y32.toInt; omega⟩) | exact Or.inr (Or.inr ⟨by decide, by show y32.toInt ≤ (G 3 8).toInt; omega⟩)), rfl, rfl⟩), (yOt.tr ot62 (yOt.un (show gu_un ycd [2100] Gj62 (gu_up (gu_up (gu_up Gj62 21 0 y32) 21 4 (Gj62 0 35)) 21 5 (Gj62 0 28)) from (gu_un.up (j := 21) (k := 5) (v := (Gj62 0 28)) (gu_un.up (j := 21) (k := 4) (v := (Gj62 0 35)) (gu_un.up (j := 21) (k := 0) (v := y32) gu_un.rf (show (2100 : Nat) ∈ ([2100] : List Nat) by decide)) (show (2100 : Nat) ∈ ([2100] : List Nat) by decide)) (show (2100 : Nat) ∈ ([2100] : List Nat) by decide))) rfl)), (fun h9 => ⟨(show (gu_up (gu_up (gu_up Gj62 21 0 y32) 21 4 (Gj62 0 35)) 21 5 (Gj62 0 28)) 15 = Gj62 15 from funext fun k_ => (show gu_un ycd [2100] Gj62 (gu_up (gu_up (gu_up Gj62 21 0 y32) 21 4 (Gj62 0 35)) 21 5 (Gj62 0 28)) from (gu_un.up (j := 21) (k := 5) (v := (Gj62 0 28)) (gu_un.up (j := 21) (k := 4) (v := (Gj62 0 35)) (gu_un.up (j := 21) (k := 0) (v := y32) gu_un.rf (show (2100 : Nat) ∈ ([2100] : List Nat) by decide)) (show (2100 : Nat) ∈ ([2100] : List Nat) by decide)) (show (2100 : Nat) ∈ ([2100] : List Nat) by decide))) 15 k_ (by simp [ycd])).trans (nl62 h9).1, (show (gu_up (gu_up (gu_up Gj62 21 0 y32) 21 4 (Gj62 0 35)) 21 5 (Gj62 0 28)) 16 = Gj62 16 from funext fun k_ => (show gu_un ycd [2100] Gj62 (gu_up (gu_up (gu_up Gj62 21 0 y32) 21 4 (Gj62 0 35)) 21 5 (Gj62 0 28)) from (gu_un.up (j := 21) (k := 5) (v := (Gj62 0 28)) (gu_un.up (j := 21) (k := 4) (v := (Gj62 0 35)) (gu_un.up (j := 21) (k := 0) (v := y32) gu_un.rf (show (2100 : Nat) ∈ ([2100] : List Nat) by decide)) (show (2100 : Nat) ∈ ([2100] : List Nat) by decide)) (show (2100 : Nat) ∈ ([2100] : List Nat) by decide))) 16 k_ (by simp [ycd])).trans (nl62 h9).2.1, (show (gu_up (gu_up (gu_up Gj62 21 0 y32) 21 4 (Gj62 0 35)) 21 5 (Gj62 0 28)) 17 = Gj62 17 from funext fun k_ => (show gu_un ycd [2100] Gj62 (gu_up (gu_up (gu_up Gj62 21 0 y32) 21 4 (Gj62 0 35)) 21 5 (Gj62 0 28)) from (gu_un.up (j := 21) (k := 5) (v := (Gj62 0 28)) (gu_un.up (j := 21) (k := 4) (v := (Gj62 0 35)) (gu_un.up (j := 21) (k := 0) (v := y32) gu_un.rf (show (2100 : Nat) ∈ ([2100] : List Nat) by decide)) (show (2100 : Nat) ∈ ([2100] : List Nat) by decide)) (show (2100 : Nat) ∈ ([2100] : List Nat) by decide))) 17 k_ (by simp [ycd])).trans (nl62 h9).2.2.1, (show (gu_up (gu_up (gu_up Gj62 21 0 y32) 21 4 (Gj62 0 35)) 21 5 (Gj62 0 28)) 18 = Gj62 18 from funext fun k_ => (show gu_un ycd [2100] Gj62 (gu_up (gu_up (gu_up Gj62 21 0 y32) 21 4 (Gj62 0 35)) 21 5 (Gj62 0 28)) from (gu_un.up (j := 21) (k := 5) (v := (Gj62 0 28)) (gu_un.up (j := 21) (k := 4) (v := (Gj62 0 35)) (gu_un.up (j := 21) (k := 0) (v := y32) gu_un.rf (show (2100 : Nat) ∈ ([2100] : List Nat) by decide)) (show (2100 : Nat) ∈ ([2100] : List Nat) by decide)) (show (2100 : Nat) ∈ ([2100] : List Nat) by decide))) 18 k_ (by simp [ycd])).trans (nl62 h9).2.2.2⟩)⟩) rfl rfl dX13_go_361
      · refine g_iload F 11 dX13_go_72 rfl ?_
        refine v_if_ne F 294 dX13_go_74 (by decide) x62_11.toInt rfl (fun c36 => ?_) (fun c36 => ?_)
        · refine g_aload_n F 0 dX13_go_294 rfl rfl ?_
          refine yg_0_33 F i_X13 w_3 dX13_go_295 ?_
          refine g_iconst F 0 dX13_go_298 (by decide) ?_
          refine g_aload_n F 0 dX13_go_299 rfl rfl ?_
          refine g_iload_n F 1 dX13_go_300 rfl rfl ?_
          refine u_callVi (k := 0) (n := 0) (b := a 0) (As := [.int p0]) (st := [.int 0, .ref (a 21)]) F (fun sz => S_X13_most l D K a Gj62 p0 s0 e0 (by omega) jI62 sz) (cwV 1 hts gX13_go_X13_most rfl rfl rfl (by decide +kernel) ⟨Nat.le_of_ble_eq_true rfl, Nat.le_of_ble_eq_true rfl⟩) rfl 0 yc_0 rfl (Nat.le_of_ble_eq_true rfl) ⟨Nat.zero_le _, Nat.zero_le _⟩ dX13_go_301 (fun r37 _ hw38 => ?_)
          have q40 : (r37.toInt = psMx (psHr (Gj62 14) s0 (G 3 0).toInt) ((G 3 0).toInt - 1).toNat) := by have h9 := hw38.2; (try simp only [(show Gj62 3 0 = (G 3 0) from jU62 3 0 (by decide)), (show Gj62 3 0 = (G 3 0) from jU62 3 0 (by decide))] at h9); first | exact h9 | omega
          have rg41 := hw38.1
          clear hw38
          refine g_aload_n F 0 dX13_go_304 rfl rfl ?_
          refine g_iload_n F 1 dX13_go_305 rfl rfl ?_
          refine u_callVi (k := 0) (n := 0) (b := a 0) (As := [.int p0]) (st := [.int r37, .int 0, .ref (a 21)]) F (fun sz => S_X13_least l D K a Gj62 p0 s0 e0 (by omega) jI62 sz) (cwV 1 hts gX13_go_X13_least rfl rfl rfl (by decide +kernel) ⟨Nat.le_of_ble_eq_true rfl, Nat.le_of_ble_eq_true rfl⟩) rfl 0 yc_0 rfl (Nat.le_of_ble_eq_true rfl) ⟨Nat.zero_le _, Nat.zero_le _⟩ dX13_go_306 (fun r42 _ hw43 => ?_)
          have q45 : (r42.toInt = psMn (fun q => (Gj62 14) ((16 * s0).toNat + q)) ((G 3 0).toInt - 1).toNat) := by have h9 := hw43.2; (try simp only [(show Gj62 3 0 = (G 3 0) from jU62 3 0 (by decide))] at h9); first | exact h9 | omega
          have rg46 := hw43.1
          clear hw43
          refine u_isub F dX13_go_309 r37.toInt r42.toInt rfl rfl (by omega) (by omega) (fun y47 ey47 => ?_)
          refine u_iast F 21 0 yc_21 rfl 0 rfl (by decide) (by decide) (yW K a (gu_up Gj62 21 0 y47)) (ys_21 _) dX13_go_310 ?_
          refine g_aload_n F 0 dX13_go_311 rfl rfl ?_
          refine yg_0_33 F i_X13 w_3 dX13_go_312 ?_
          refine g_iconst F 4 dX13_go_315 (by decide) ?_
          refine g_aload_n F 0 dX13_go_316 rfl rfl ?_
          refine yg_0_35 F i_X13 w_1 dX13_go_317 (Gj62 0 35) (rfl) ?_
          refine u_iast F 21 0 yc_21 rfl 4 rfl (by decide) (by decide) (yW K a (gu_up (gu_up Gj62 21 0 y47) 21 4 (Gj62 0 35))) (ys_21 _) dX13_go_320 ?_
          refine g_aload_n F 0 dX13_go_321 rfl rfl ?_
          refine yg_0_33 F i_X13 w_3 dX13_go_322 ?_
          refine g_iconst F 5 dX13_go_325 (by decide) ?_
          refine g_aload_n F 0 dX13_go_326 rfl rfl ?_
          refine yg_0_28 F i_X13 w_11 dX13_go_327 (Gj62 0 28) (rfl) ?_
          have b48 : (0 : Int) ≤ (Gj62 0 28).toInt ∧ (Gj62 0 28).toInt ≤ 30000 := jI62 0 28
          refine u_iast F 21 0 yc_21 rfl 5 rfl (by decide) (by decide) (yW K a (gu_up (gu_up (gu_up Gj62 21 0 y47) 21 4 (Gj62 0 35)) 21 5 (Gj62 0 28))) (ys_21 _) dX13_go_330 ?_
          refine g_iload F 11 dX13_go_331 rfl ?_
          refine v_if_eq F 340 dX13_go_333 (by decide) x62_11.toInt rfl (fun c49 => absurd c49 (by omega)) (fun c49 => ?_)
          refine g_iconst F 2 dX13_go_336 (by decide) ?_
          refine g_goto F 361 dX13_go_337 (by decide) ?_
          exact u_iret F hA hQ hr (gu_up (gu_up (gu_up Gj62 21 0 y47) 21 4 (Gj62 0 35)) 21 5 (Gj62 0 28)) (⟨(gu_I.up (j := 21) (k := 5) (v := (Gj62 0 28)) (gu_I.up (j := 21) (k := 4) (v := (Gj62 0 35)) (gu_I.up (j := 21) (k := 0) (v := y47) jI62 (ti_rng _).1 (ti_rng _).2) (ti_rng _).1 (ti_rng _).2) (ti_rng _).1 (ti_rng _).2), (gu_un.up (j := 21) (k := 5) (v := (Gj62 0 28)) (gu_un.up (j := 21) (k := 4) (v := (Gj62 0 35)) (gu_un.up (j := 21) (k := 0) (v := y47) (gu_un.tr gu_un.rf (gu_un.su jU62 rfl)) (show (2100 : Nat) ∈ ([29, 36, 37, 1300, 1400, 1500, 1600, 1700, 1800, 2100] : List Nat) by decide)) (show (2100 : Nat) ∈ ([29, 36, 37, 1300, 1400, 1500, 1600, 1700, 1800, 2100] : List Nat) by decide)) (show (2100 : Nat) ∈ ([29, 36, 37, 1300, 1400, 1500, 1600, 1700, 1800, 2100] : List Nat) by decide)), (by decide), (⟨x62_8, x62_9, lv62, ga62, (yRl.fin (m := ((G 3 0).toInt * p3.toInt).toNat) (yRl.to (E2 := (gu_up (gu_up (gu_up Gj62 21 0 y47) 21 4 (Gj62 0 35)) 21 5 (Gj62 0 28))) yr62 rfl rfl ⟨rfl, rfl⟩ ⟨rfl, rfl, rfl, rfl⟩ ⟨rfl, rfl, rfl, rfl⟩) (by rw [e3]; omega) (by rw [e3]; first | (left; omega) | (right; omega))).sh (by first | (rw [if_pos (by decide)]; omega) | (rw [if_neg (by decide)]; omega)), (by show y47.toInt = psMx (yHr (Gj62 14) s0) _ - psMn (yHr (Gj62 14) s0) _; have g1 := q40; have g2 := q45; rw [pyMx (by omega)] at g1; rw [pyMn (by omega)] at g2; omega), (by first | exact Or.inl (by decide) | exact Or.inr (Or.inl ⟨by decide, by show (G 3 8).toInt < y47.toInt; omega⟩) | exact Or.inr (Or.inr ⟨by decide, by show y47.toInt ≤ (G 3 8).toInt; omega⟩)), rfl, rfl⟩), (yOt.tr ot62 (yOt.un (show gu_un ycd [2100] Gj62 (gu_up (gu_up (gu_up Gj62 21 0 y47) 21 4 (Gj62 0 35)) 21 5 (Gj62 0 28)) from (gu_un.up (j := 21) (k := 5) (v := (Gj62 0 28)) (gu_un.up (j := 21) (k := 4) (v := (Gj62 0 35)) (gu_un.up (j := 21) (k := 0) (v := y47) gu_un.rf (show (2100 : Nat) ∈ ([2100] : List Nat) by decide)) (show (2100 : Nat) ∈ ([2100] : List Nat) by decide)) (show (2100 : Nat) ∈ ([2100] : List Nat) by decide))) rfl)), (fun h9 => ⟨(show (gu_up (gu_up (gu_up Gj62 21 0 y47) 21 4 (Gj62 0 35)) 21 5 (Gj62 0 28)) 15 = Gj62 15 from funext fun k_ => (show gu_un ycd [2100] Gj62 (gu_up (gu_up (gu_up Gj62 21 0 y47) 21 4 (Gj62 0 35)) 21 5 (Gj62 0 28)) from (gu_un.up (j := 21) (k := 5) (v := (Gj62 0 28)) (gu_un.up (j := 21) (k := 4) (v := (Gj62 0 35)) (gu_un.up (j := 21) (k := 0) (v := y47) gu_un.rf (show (2100 : Nat) ∈ ([2100] : List Nat) by decide)) (show (2100 : Nat) ∈ ([2100] : List Nat) by decide)) (show (2100 : Nat) ∈ ([2100] : List Nat) by decide))) 15 k_ (by simp [ycd])).trans (nl62 h9).1, (show (gu_up (gu_up (gu_up Gj62 21 0 y47) 21 4 (Gj62 0 35)) 21 5 (Gj62 0 28)) 16 = Gj62 16 from funext fun k_ => (show gu_un ycd [2100] Gj62 (gu_up (gu_up (gu_up Gj62 21 0 y47) 21 4 (Gj62 0 35)) 21 5 (Gj62 0 28)) from (gu_un.up (j := 21) (k := 5) (v := (Gj62 0 28)) (gu_un.up (j := 21) (k := 4) (v := (Gj62 0 35)) (gu_un.up (j := 21) (k := 0) (v := y47) gu_un.rf (show (2100 : Nat) ∈ ([2100] : List Nat) by decide)) (show (2100 : Nat) ∈ ([2100] : List Nat) by decide)) (show (2100 : Nat) ∈ ([2100] : List Nat) by decide))) 16 k_ (by simp [ycd])).trans (nl62 h9).2.1, (show (gu_up (gu_up (gu_up Gj62 21 0 y47) 21 4 (Gj62 0 35)) 21 5 (Gj62 0 28)) 17 = Gj62 17 from funext fun k_ => (show gu_un ycd [2100] Gj62 (gu_up (gu_up (gu_up Gj62 21 0 y47) 21 4 (Gj62 0 35)) 21 5 (Gj62 0 28)) from (gu_un.up (j := 21) (k := 5) (v := (Gj62 0 28)) (gu_un.up (j := 21) (k := 4) (v := (Gj62 0 35)) (gu_un.up (j := 21) (k := 0) (v := y47) gu_un.rf (show (2100 : Nat) ∈ ([2100] : List Nat) by decide)) (show (2100 : Nat) ∈ ([2100] : List Nat) by decide)) (show (2100 : Nat) ∈ ([2100] : List Nat) by decide))) 17 k_ (by simp [ycd])).trans (nl62 h9).2.2.1, (show (gu_up (gu_up (gu_up Gj62 21 0 y47) 21 4 (Gj62 0 35)) 21 5 (Gj62 0 28)) 18 = Gj62 18 from funext fun k_ => (show gu_un ycd [2100] Gj62 (gu_up (gu_up (gu_up Gj62 21 0 y47) 21 4 (Gj62 0 35)) 21 5 (Gj62 0 28)) from (gu_un.up (j := 21) (k := 5) (v := (Gj62 0 28)) (gu_un.up (j := 21) (k := 4) (v := (Gj62 0 35)) (gu_un.up (j := 21) (k := 0) (v := y47) gu_un.rf (show (2100 : Nat) ∈ ([2100] : List Nat) by decide)) (show (2100 : Nat) ∈ ([2100] : List Nat) by decide)) (show (2100 : Nat) ∈ ([2100] : List Nat) by decide))) 18 k_ (by simp [ycd])).trans (nl62 h9).2.2.2⟩)⟩) rfl rfl dX13_go_361
        · have n1 := Int.emod_nonneg x62_12.toInt (show (G 3 0).toInt ≠ 0 by omega)
          have n2 := Int.emod_lt_of_pos x62_12.toInt (show 0 < (G 3 0).toInt by omega)
          have n4 := Int.ediv_nonneg (show (0 : Int) ≤ x62_12.toInt by omega) (show (0 : Int) ≤ (G 3 0).toInt by omega)
          have n5 : x62_12.toInt / (G 3 0).toInt < s3 := Int.ediv_lt_of_lt_mul (by omega) (by rw [Int.mul_comm]; omega)
          have n6 := Int.emod_nonneg x62_12.toInt (show (G 3 11).toInt ≠ 0 by omega)
          have n7 := Int.emod_lt_of_pos x62_12.toInt (show 0 < (G 3 11).toInt by omega)
          refine g_aload_n F 0 dX13_go_77 rfl rfl ?_
          refine yg_0_33 F i_X13 w_3 dX13_go_78 ?_
          refine g_bipush F 6 dX13_go_81 (by decide) ?_
          refine g_iload F 12 dX13_go_83 rfl ?_
          refine g_iload F 10 dX13_go_85 rfl ?_
          refine u_idiv F dX13_go_87 (ti_ne0 rfl (by omega)) x62_12.toInt (G 3 0).toInt rfl rfl (by omega) (by omega) (fun y50 ey50 => ?_)
          refine g_iconst F 1 dX13_go_88 (by decide) ?_
          refine u_iadd F dX13_go_89 y50.toInt 1 rfl rfl (by omega) (by omega) (fun y51 ey51 => ?_)
          refine u_iast F 21 0 yc_21 rfl 6 rfl (by decide) (by decide) (yW K a (gu_up Gj62 21 6 y51)) (ys_21 _) dX13_go_90 ?_
          refine g_aload_n F 0 dX13_go_91 rfl rfl ?_
          refine g_iload_n F 1 dX13_go_92 rfl rfl ?_
          refine g_iload F 12 dX13_go_93 rfl ?_
          refine g_iload F 10 dX13_go_95 rfl ?_
          refine u_irem F dX13_go_97 (ti_ne0 rfl (by omega)) x62_12.toInt (G 3 0).toInt rfl rfl (by omega) (by omega) (fun y52 ey52 => ?_)
          refine g_iload F 12 dX13_go_98 rfl ?_
          refine g_iload F 10 dX13_go_100 rfl ?_
          refine u_idiv F dX13_go_102 (ti_ne0 rfl (by omega)) x62_12.toInt (G 3 0).toInt rfl rfl (by omega) (by omega) (fun y53 ey53 => ?_)
          refine g_iload F 8 dX13_go_103 rfl ?_
          refine g_iload_n F 3 dX13_go_105 rfl rfl ?_
          refine g_iload F 7 dX13_go_106 rfl ?_
          have tq1 : s2 * (y53.toInt + 1) ≤ s2 * s3 := Int.mul_le_mul_of_nonneg_left (by omega) (by omega)
          have tq2 := Int.mul_nonneg (show (0 : Int) ≤ s2 by omega) (show (0 : Int) ≤ y53.toInt + 1 by omega)
          refine u_callVi (k := 0) (n := 0) (b := a 0) (As := [.int p0, .int y52, .int y53, .int x62_8, .int p2, .int p6]) (st := []) F (fun sz => S_X13_teethAt l D K a (gu_up Gj62 21 6 y51) p0 s0 y52 y52.toInt y53 y53.toInt x62_8 x62_8.toInt p2 s2 p6 s6 e0 (by omega) rfl (by omega) rfl (by omega) rfl e2 e6 (yW3.un wf (show gu_un ycd [29, 36, 37, 1300, 1400, 1500, 1600, 1700, 1800, 2100] G (gu_up Gj62 21 6 y51) from (gu_un.up (j := 21) (k := 6) (v := y51) (gu_un.tr gu_un.rf (gu_un.su jU62 rfl)) (show (2100 : Nat) ∈ ([29, 36, 37, 1300, 1400, 1500, 1600, 1700, 1800, 2100] : List Nat) by decide))) rfl) (by (first | omega | (simp only [Int32.reduceToInt, true_and, and_true, ne_eq, not_true_eq_false, false_and, or_false, false_or, true_or, or_true, false_implies] <;> omega))) (by have e9_0_35 : (gu_up Gj62 21 6 y51) 0 35 = (Gj62 0 35) := rfl; (try simp only [e9_0_35, true_and, and_true]) <;> (first | omega | (simp only [Int32.reduceToInt, true_and, and_true, ne_eq, not_true_eq_false, false_and, or_false, false_or, true_or, or_true, false_implies] <;> omega))) (gu_I.up (j := 21) (k := 6) (v := y51) jI62 (ti_rng _).1 (ti_rng _).2) sz) (cwV 6 hts gX13_go_X13_teethAt rfl rfl rfl (by decide +kernel) ⟨Nat.le_of_ble_eq_true rfl, Nat.le_of_ble_eq_true rfl⟩) rfl 0 yc_0 rfl (Nat.le_of_ble_eq_true rfl) ⟨Nat.zero_le _, Nat.zero_le _⟩ dX13_go_108 (fun r54 G56 hw55 => ?_)
          have hI57 : yI G56 := hw55.1
          have hU58 : gu_un ycd [29, 1300, 1400, 1500, 1600, 1700, 1800, 2100] (gu_up Gj62 21 6 y51) G56 := hw55.2.1
          have hp59 := hw55.2.2
          have q60 : (∀ (Q S : gS) (C : Nat → List Int), yBq (gu_up Gj62 21 6 y51) Q C y53 (x62_8 - (p2 * (y53 + 1))) → pR (G 3 0).toInt S (yHr ((gu_up Gj62 21 6 y51) 14) s0) ((gu_up Gj62 21 6 y51) 0 28) ((gu_up Gj62 21 6 y51) 0 35) ((gu_up Gj62 21 6 y51) 0 36) ((gu_up Gj62 21 6 y51) 21 2) ((gu_up Gj62 21 6 y51) 21 3) ((gu_up Gj62 21 6 y51) 21 1) 0 → pR (G 3 0).toInt (psT Q C y52.toInt y53 ((G 3 10).toInt).toNat S) (yHr (G56 14) s0) (G56 0 28) ((gu_up Gj62 21 6 y51) 0 35) ((gu_up Gj62 21 6 y51) 0 36) (G56 21 2) ((gu_up Gj62 21 6 y51) 21 3) ((gu_up Gj62 21 6 y51) 21 1) (Int32.ofInt r54.toInt) ∧ (∀ A0 B0 C0 D0 : Nat → Int32, s6 ≠ -1 → yLf s0 (G 3 0).toInt S p6 A0 B0 C0 D0 ((gu_up Gj62 21 6 y51) 15) ((gu_up Gj62 21 6 y51) 16) ((gu_up Gj62 21 6 y51) 17) ((gu_up Gj62 21 6 y51) 18) → yLf s0 (G 3 0).toInt (psT Q C y52.toInt y53 ((G 3 10).toInt).toNat S) p6 A0 B0 C0 D0 (G56 15) (G56 16) (G56 17) (G56 18))) := by have h9 := hp59.2.1; (try simp only [(show (gu_up Gj62 21 6 y51) 3 0 = (G 3 0) from jU62 3 0 (by decide)), (show (gu_up Gj62 21 6 y51) 3 0 = (G 3 0) from jU62 3 0 (by decide)), (show (gu_up Gj62 21 6 y51) 3 10 = (G 3 10) from jU62 3 10 (by decide)), (show (gu_up Gj62 21 6 y51) 3 0 = (G 3 0) from jU62 3 0 (by decide)), (show (gu_up Gj62 21 6 y51) 3 0 = (G 3 0) from jU62 3 0 (by decide)), (show (gu_up Gj62 21 6 y51) 3 10 = (G 3 10) from jU62 3 10 (by decide))] at h9); first | exact h9 | omega
          have q61 : ((∀ q : Nat, q ≠ 2 → G56 21 q = (gu_up Gj62 21 6 y51) 21 q) ∧ (s6 = -1 → G56 15 = (gu_up Gj62 21 6 y51) 15 ∧ G56 16 = (gu_up Gj62 21 6 y51) 16 ∧ G56 17 = (gu_up Gj62 21 6 y51) 17 ∧ G56 18 = (gu_up Gj62 21 6 y51) 18)) := hp59.2.2.1
          have q62 : yOt s0 (G 3 0).toInt (gu_up Gj62 21 6 y51) G56 := by have h9 := hp59.2.2.2.1; (try simp only [(show (gu_up Gj62 21 6 y51) 3 0 = (G 3 0) from jU62 3 0 (by decide))] at h9); first | exact h9 | omega
          have q63 : (-39996 ≤ r54.toInt ∧ r54.toInt ≤ 39996) := hp59.2.2.2.2
          have rg64 := hp59.1
          clear hp59 hw55
          refine g_istore F [(13, .int r54), (0, .ref (a 0)), (1, .int p0), (2, .int p1), (3, .int p2), (4, .int p3), (5, .int p4), (6, .int p5), (7, .int p6), (8, .int x62_8), (9, .int x62_9), (10, .int (G 3 0)), (11, .int x62_11), (12, .int x62_12)] dX13_go_111 (by decide) rfl ?_
          refine g_iload F 6 dX13_go_113 rfl ?_
          refine g_aload_n F 1 dX13_go_115 rfl rfl ?_
          refine g_aload_n F 1 dX13_go_116 rfl rfl ?_
          refine yg_0_23 F i_X13 w_12 dX13_go_117 ?_
          refine g_iload_n F 2 dX13_go_120 rfl rfl ?_
          refine g_iload F 13 dX13_go_121 rfl ?_
          refine g_iload F 11 dX13_go_123 rfl ?_
          refine u_irem F dX13_go_125 (ti_ne0 rfl (by omega)) x62_12.toInt (G 3 0).toInt rfl rfl (by omega) (by omega) (fun y65 ey65 => ?_)
          refine u_call0 (k := 0) (n := 0) (As := [.int p0, .int y65]) (st := [.ref (a 14), .ref (a 0), .int p4]) F (fun sz => S_X13_at_b5_b15 l D p0 s0 y65 y65.toInt e0 (by omega) rfl (by omega) sz) (va_cwS 2 hts gX13_go_X13_at rfl rfl rfl (by decide +kernel) ⟨Nat.le_of_ble_eq_true rfl, Nat.le_of_ble_eq_true rfl⟩) rfl (Nat.le_of_ble_eq_true rfl) ⟨Nat.zero_le _, Nat.zero_le _⟩ dX13_go_126 (fun r66 _ hw67 => ?_)
          have rg69 := hw67.1
          have rg70 := hw67.2
          clear hw67
          refine u1_iald F 14 0 yc_14 rfl r66.toInt rfl (by omega) (by omega) dX13_go_129 ((G56 14) ((16 * s0 + y65.toInt)).toNat) (by rw [show r66.toInt = (16 * s0 + y65.toInt) by omega] <;> rfl) ?_
          have b71 : ((-9998) : Int) ≤ ((G56 14) ((16 * s0 + y65.toInt)).toNat).toInt ∧ ((G56 14) ((16 * s0 + y65.toInt)).toNat).toInt ≤ 5000 := hI57 14 _
          refine g_iload F 10 dX13_go_130 rfl ?_
          refine u_callVi (k := 0) (n := 0) (b := a 0) (As := [.int ((G56 14) ((16 * s0 + y65.toInt)).toNat), .int x62_9]) (st := [.int p4]) F (fun sz => S_X13_wall l D K a G56 ((G56 14) ((16 * s0 + y65.toInt)).toNat) ((G56 14) ((16 * s0 + y65.toInt)).toNat).toInt x62_9 x62_9.toInt rfl rfl (yW3.un wf (show gu_un ycd [29, 36, 37, 1300, 1400, 1500, 1600, 1700, 1800, 2100] G G56 from (gu_un.tr (gu_un.up (j := 21) (k := 6) (v := y51) (gu_un.tr gu_un.rf (gu_un.su jU62 rfl)) (show (2100 : Nat) ∈ ([29, 36, 37, 1300, 1400, 1500, 1600, 1700, 1800, 2100] : List Nat) by decide)) (gu_un.su hU58 rfl))) rfl) hI57 sz) (cwV 2 hts gX13_go_X13_wall rfl rfl rfl (by decide +kernel) ⟨Nat.le_of_ble_eq_true rfl, Nat.le_of_ble_eq_true rfl⟩) rfl 0 yc_0 rfl (Nat.le_of_ble_eq_true rfl) ⟨Nat.zero_le _, Nat.zero_le _⟩ dX13_go_132 (fun r72 G74 hw73 => ?_)
          have hI75 : yI G74 := hw73.1
          have hU76 : gu_un ycd [1300] G56 G74 := hw73.2.1
          have hp77 := hw73.2.2
          have q78 : (gcOK (mL 1 G56) → Int32.ofInt r72.toInt = psC (0) 999 (eV ((G56 14) ((16 * s0 + y65.toInt)).toNat) x62_9 (mL 1 G56))) := hp77.2
          have rg79 := hp77.1
          clear hp77 hw73
          refine g_iadd F dX13_go_135 ?_
          have hs9 : ((p4 + r72) : Int32).toInt = _ + _ := ti_add e4 rfl (by omega) (by omega)
          refine g_istore F [(14, .int (p4 + r72)), (13, .int r54), (0, .ref (a 0)), (1, .int p0), (2, .int p1), (3, .int p2), (4, .int p3), (5, .int p4), (6, .int p5), (7, .int p6), (8, .int x62_8), (9, .int x62_9), (10, .int (G 3 0)), (11, .int x62_11), (12, .int x62_12)] dX13_go_136 (by decide) rfl ?_
          refine g_iload_n F 4 dX13_go_138 rfl rfl ?_
          refine g_aload_n F 2 dX13_go_139 rfl rfl ?_
          refine yg_0_14 F i_X13 w_13 dX13_go_140 ?_
          refine g_iload F 14 dX13_go_143 rfl ?_
          refine g_aload_n F 2 dX13_go_145 rfl rfl ?_
          refine yg_0_10 F i_X13 w_2 dX13_go_146 ?_
          refine g_bipush F 11 dX13_go_149 (by decide) ?_
          refine u1_iald F 3 0 yc_3 rfl 11 rfl (by decide) (by decide) dX13_go_151 (G 3 11) ((hU76 3 11 (by decide)).trans ((hU58 3 11 (by decide)).trans (jU62 3 11 (by decide)))) ?_
          refine u_irem F dX13_go_152 (ti_ne0 rfl (by omega)) x62_12.toInt (G 3 11).toInt rfl rfl (by omega) (by omega) (fun y80 ey80 => ?_)
          refine u1_iald F 7 0 yc_7 rfl y80.toInt rfl (by omega) (by omega) dX13_go_153 ((G 7) (y80.toInt).toNat) (congrFun ((show G74 7 = G56 7 from funext fun k_ => hU76 7 k_ (show (700 : Nat) ∉ ([1300] : List Nat) by decide)).trans ((show G56 7 = (gu_up Gj62 21 6 y51) 7 from funext fun k_ => hU58 7 k_ (show (700 : Nat) ∉ ([29, 1300, 1400, 1500, 1600, 1700, 1800, 2100] : List Nat) by decide)).trans ((show Gj62 7 = G 7 from funext fun k_ => jU62 7 k_ (show (700 : Nat) ∉ ([29, 36, 37, 1300, 1400, 1500, 1600, 1700, 1800, 2100] : List Nat) by decide))))) _) ?_
          have b81 : (0 : Int) ≤ ((G 7) (y80.toInt).toNat).toInt ∧ ((G 7) (y80.toInt).toNat).toInt ≤ 9 := hI 7 _
          refine g_iadd F dX13_go_154 ?_
          have ks9 : ((p1 + ((G 7) (y80.toInt).toNat)) : Int32).toInt = _ + _ := ti_add e1 rfl (by omega) (by omega)
          refine g_istore F [(15, .int (p1 + ((G 7) (y80.toInt).toNat))), (14, .int (p4 + r72)), (13, .int r54), (0, .ref (a 0)), (1, .int p0), (2, .int p1), (3, .int p2), (4, .int p3), (5, .int p4), (6, .int p5), (7, .int p6), (8, .int x62_8), (9, .int x62_9), (10, .int (G 3 0)), (11, .int x62_11), (12, .int x62_12)] dX13_go_155 (by decide) rfl ?_
          refine g_locals [(0, .ref (a 0)), (1, .int p0), (2, .int p1), (3, .int p2), (4, .int p3), (5, .int p4), (6, .int p5), (7, .int p6), (8, .int x62_8), (9, .int x62_9), (10, .int (G 3 0)), (11, .int x62_11), (12, .int x62_12), (13, .int r54), (14, .int (p4 + r72)), (15, .int (p1 + ((G 7) (y80.toInt).toNat)))] [3, 4, 5, 6, 7, 8, 9, 10, 11, 12, 13, 14, 15, 2, 1, 0] rfl ?_
          exact J_157 _ x62_11 r54 (p4 + r72) (p1 + ((G 7) (y80.toInt).toNat)) G74 (Nat.lt_succ_self _) (by have h9 := ti_rng x62_11; omega) (by have h9 := ti_rng x62_12; omega) (by have h9 := ti_rng r54; omega) (by have h9 := ti_rng (p4 + r72); omega) (by have h9 := ti_rng (p1 + ((G 7) (y80.toInt).toNat)); omega) hI75 (gu_un.tr (gu_un.tr (gu_un.up (j := 21) (k := 6) (v := y51) gu_un.rf (show (2100 : Nat) ∈ ([29, 36, 37, 1300, 1400, 1500, 1600, 1700, 1800, 2100] : List Nat) by decide)) (gu_un.su hU58 rfl)) (gu_un.su hU76 rfl)) (fun Q S C hq hs => by have et : (Int32.ofInt (x62_12.toInt / (G 3 0).toInt)) = y53 := Int32.toInt_inj.mp (by rw [ti_oi (by omega) (by omega)]; omega); have ei : (x62_12.toInt % (G 3 0).toInt) = y52.toInt := (by omega); rw [et] at hq ⊢; rw [ei]; have h9 := q60 Q S C ⟨by rw [(show (gu_up Gj62 21 6 y51) 3 = G 3 from funext fun k_ => (show gu_un ycd [29, 36, 37, 1300, 1400, 1500, 1600, 1700, 1800, 2100] G (gu_up Gj62 21 6 y51) from (gu_un.up (j := 21) (k := 6) (v := y51) (gu_un.tr gu_un.rf (gu_un.su jU62 rfl)) (show (2100 : Nat) ∈ ([29, 36, 37, 1300, 1400, 1500, 1600, 1700, 1800, 2100] : List Nat) by decide))) 3 k_ (by simp [ycd]))]; exact hq.1, by rw [(show (gu_up Gj62 21 6 y51) 3 = G 3 from funext fun k_ => (show gu_un ycd [29, 36, 37, 1300, 1400, 1500, 1600, 1700, 1800, 2100] G (gu_up Gj62 21 6 y51) from (gu_un.up (j := 21) (k := 6) (v := y51) (gu_un.tr gu_un.rf (gu_un.su jU62 rfl)) (show (2100 : Nat) ∈ ([29, 36, 37, 1300, 1400, 1500, 1600, 1700, 1800, 2100] : List Nat) by decide))) 3 k_ (by simp [ycd])), (show (gu_up Gj62 21 6 y51) 5 = G 5 from funext fun k_ => (show gu_un ycd [29, 36, 37, 1300, 1400, 1500, 1600, 1700, 1800, 2100] G (gu_up Gj62 21 6 y51) from (gu_un.up (j := 21) (k := 6) (v := y51) (gu_un.tr gu_un.rf (gu_un.su jU62 rfl)) (show (2100 : Nat) ∈ ([29, 36, 37, 1300, 1400, 1500, 1600, 1700, 1800, 2100] : List Nat) by decide))) 5 k_ (by simp [ycd]))]; exact hq.2.1, hq.2.2.1, (by rw [show mL 0 (gu_up Gj62 21 6 y51) = mL 0 G from mLun (show gu_un ycd [29, 36, 37, 1300, 1400, 1500, 1600, 1700, 1800, 2100] G (gu_up Gj62 21 6 y51) from (gu_un.up (j := 21) (k := 6) (v := y51) (gu_un.tr gu_un.rf (gu_un.su jU62 rfl)) (show (2100 : Nat) ∈ ([29, 36, 37, 1300, 1400, 1500, 1600, 1700, 1800, 2100] : List Nat) by decide))) rfl]; exact hq.2.2.2.1), (by rw [show mL 2 (gu_up Gj62 21 6 y51) = mL 2 G from mLun (show gu_un ycd [29, 36, 37, 1300, 1400, 1500, 1600, 1700, 1800, 2100] G (gu_up Gj62 21 6 y51) from (gu_un.up (j := 21) (k := 6) (v := y51) (gu_un.tr gu_un.rf (gu_un.su jU62 rfl)) (show (2100 : Nat) ∈ ([29, 36, 37, 1300, 1400, 1500, 1600, 1700, 1800, 2100] : List Nat) by decide))) rfl]; exact hq.2.2.2.2.1), hq.2.2.2.2.2⟩ hs; rw [Int32.ofInt_toInt] at h9; rw [show G74 14 = G56 14 from (show G74 14 = G56 14 from funext fun k_ => (show gu_un ycd [1300] G56 G74 from (gu_un.tr gu_un.rf (gu_un.su hU76 rfl))) 14 k_ (by simp [ycd])), show G74 0 28 = G56 0 28 from (show G74 0 28 = G56 0 28 from (show gu_un ycd [1300] G56 G74 from (gu_un.tr gu_un.rf (gu_un.su hU76 rfl))) 0 28 (by decide)), show G74 21 2 = G56 21 2 from (show G74 21 2 = G56 21 2 from (show gu_un ycd [1300] G56 G74 from (gu_un.tr gu_un.rf (gu_un.su hU76 rfl))) 21 2 (by decide)), show G74 15 = G56 15 from (show G74 15 = G56 15 from funext fun k_ => (show gu_un ycd [1300] G56 G74 from (gu_un.tr gu_un.rf (gu_un.su hU76 rfl))) 15 k_ (by simp [ycd])), show G74 16 = G56 16 from (show G74 16 = G56 16 from funext fun k_ => (show gu_un ycd [1300] G56 G74 from (gu_un.tr gu_un.rf (gu_un.su hU76 rfl))) 16 k_ (by simp [ycd])), show G74 17 = G56 17 from (show G74 17 = G56 17 from funext fun k_ => (show gu_un ycd [1300] G56 G74 from (gu_un.tr gu_un.rf (gu_un.su hU76 rfl))) 17 k_ (by simp [ycd])), show G74 18 = G56 18 from (show G74 18 = G56 18 from funext fun k_ => (show gu_un ycd [1300] G56 G74 from (gu_un.tr gu_un.rf (gu_un.su hU76 rfl))) 18 k_ (by simp [ycd]))]; exact ⟨h9.1, fun h8 h7 => h9.2 _ _ _ _ (by omega) h7⟩) (fun gc => by have h9 := q78 (by rw [show mL 1 G56 = mL 1 G from mLun (show gu_un ycd [29, 36, 37, 1300, 1400, 1500, 1600, 1700, 1800, 2100] G G56 from (gu_un.tr (gu_un.up (j := 21) (k := 6) (v := y51) (gu_un.tr gu_un.rf (gu_un.su jU62 rfl)) (show (2100 : Nat) ∈ ([29, 36, 37, 1300, 1400, 1500, 1600, 1700, 1800, 2100] : List Nat) by decide)) (gu_un.su hU58 rfl))) rfl]; exact gc); rw [Int32.ofInt_toInt, show mL 1 G56 = mL 1 G from mLun (show gu_un ycd [29, 36, 37, 1300, 1400, 1500, 1600, 1700, 1800, 2100] G G56 from (gu_un.tr (gu_un.up (j := 21) (k := 6) (v := y51) (gu_un.tr gu_un.rf (gu_un.su jU62 rfl)) (show (2100 : Nat) ∈ ([29, 36, 37, 1300, 1400, 1500, 1600, 1700, 1800, 2100] : List Nat) by decide)) (gu_un.su hU58 rfl))) rfl] at h9; rw [h9, show G74 14 = G56 14 from (show G74 14 = G56 14 from funext fun k_ => (show gu_un ycd [1300] G56 G74 from (gu_un.tr gu_un.rf (gu_un.su hU76 rfl))) 14 k_ (by simp [ycd])), show (x62_12.toInt % (G 3 0).toInt) = y65.toInt by omega]) (fun Q S hq hs => by rw [show (p1 + G 7 (x62_12.toInt % (G 3 11).toInt).toNat).toInt - ((p1 + ((G 7) (y80.toInt).toNat)) : Int32).toInt = 0 by rw [show x62_12.toInt % (G 3 11).toInt = y80.toInt by omega]; exact Int.sub_self _, show G74 0 35 = Gj62 0 35 from (show G74 0 35 = Gj62 0 35 from (show gu_un ycd [29, 1300, 1400, 1500, 1600, 1700, 1800, 2100] Gj62 G74 from (gu_un.tr (gu_un.tr (gu_un.up (j := 21) (k := 6) (v := y51) gu_un.rf (show (2100 : Nat) ∈ ([29, 1300, 1400, 1500, 1600, 1700, 1800, 2100] : List Nat) by decide)) (gu_un.su hU58 rfl)) (gu_un.su hU76 rfl))) 0 35 (by decide)), show G74 0 36 = Gj62 0 36 from (show G74 0 36 = Gj62 0 36 from (show gu_un ycd [29, 1300, 1400, 1500, 1600, 1700, 1800, 2100] Gj62 G74 from (gu_un.tr (gu_un.tr (gu_un.up (j := 21) (k := 6) (v := y51) gu_un.rf (show (2100 : Nat) ∈ ([29, 1300, 1400, 1500, 1600, 1700, 1800, 2100] : List Nat) by decide)) (gu_un.su hU58 rfl)) (gu_un.su hU76 rfl))) 0 36 (by decide)), show G74 21 3 = Gj62 21 3 from ((show G74 21 3 = G56 21 3 from (show G74 21 3 = G56 21 3 from (show gu_un ycd [1300] G56 G74 from (gu_un.tr gu_un.rf (gu_un.su hU76 rfl))) 21 3 (by decide))).trans (q61.1 3 (by decide))), show G74 21 1 = Gj62 21 1 from ((show G74 21 1 = G56 21 1 from (show G74 21 1 = G56 21 1 from (show gu_un ycd [1300] G56 G74 from (gu_un.tr gu_un.rf (gu_un.su hU76 rfl))) 21 1 (by decide))).trans (q61.1 1 (by decide))), show (x62_11 : Int32) = 0 from Int32.toInt_inj.mp (Eq.trans (show Int32.toInt x62_11 = 0 by omega) rfl)]; exact hs) (((show G74 21 6 = G56 21 6 from (show gu_un ycd [1300] G56 G74 from (gu_un.tr gu_un.rf (gu_un.su hU76 rfl))) 21 6 (by decide)).trans (q61.1 6 (by decide))).trans (show (gu_up Gj62 21 6 y51) 21 6 = (Int32.ofInt (x62_12.toInt / (G 3 0).toInt)) + 1 from Int32.toInt_inj.mp (by show Int32.toInt y51 = _; rw [ti_add (ti_oi (by omega) (by omega)) (show (1 : Int32).toInt = 1 from rfl) (by omega) (by omega)]; omega))) (yOt.tr (yOt.tr (yOt.tr ot62 (yOt.un (show gu_un ycd [2100] Gj62 (gu_up Gj62 21 6 y51) from (gu_un.up (j := 21) (k := 6) (v := y51) gu_un.rf (show (2100 : Nat) ∈ ([2100] : List Nat) by decide))) rfl)) (show yOt s0 (G 3 0).toInt (gu_up Gj62 21 6 y51) G56 from by have h9 := q62; exact h9)) (yOt.un (show gu_un ycd [1300] G56 G74 from (gu_un.tr gu_un.rf (gu_un.su hU76 rfl))) rfl)) (fun h9 => ⟨(((show G74 15 = G56 15 from funext fun k_ => (show gu_un ycd [1300] G56 G74 from (gu_un.tr gu_un.rf (gu_un.su hU76 rfl))) 15 k_ (by simp [ycd])).trans ((q61.2 (by omega)).1)).trans (show (gu_up Gj62 21 6 y51) 15 = Gj62 15 from funext fun k_ => (show gu_un ycd [2100] Gj62 (gu_up Gj62 21 6 y51) from (gu_un.up (j := 21) (k := 6) (v := y51) gu_un.rf (show (2100 : Nat) ∈ ([2100] : List Nat) by decide))) 15 k_ (by simp [ycd]))).trans (nl62 h9).1, (((show G74 16 = G56 16 from funext fun k_ => (show gu_un ycd [1300] G56 G74 from (gu_un.tr gu_un.rf (gu_un.su hU76 rfl))) 16 k_ (by simp [ycd])).trans ((q61.2 (by omega)).2.1)).trans (show (gu_up Gj62 21 6 y51) 16 = Gj62 16 from funext fun k_ => (show gu_un ycd [2100] Gj62 (gu_up Gj62 21 6 y51) from (gu_un.up (j := 21) (k := 6) (v := y51) gu_un.rf (show (2100 : Nat) ∈ ([2100] : List Nat) by decide))) 16 k_ (by simp [ycd]))).trans (nl62 h9).2.1, (((show G74 17 = G56 17 from funext fun k_ => (show gu_un ycd [1300] G56 G74 from (gu_un.tr gu_un.rf (gu_un.su hU76 rfl))) 17 k_ (by simp [ycd])).trans ((q61.2 (by omega)).2.2.1)).trans (show (gu_up Gj62 21 6 y51) 17 = Gj62 17 from funext fun k_ => (show gu_un ycd [2100] Gj62 (gu_up Gj62 21 6 y51) from (gu_un.up (j := 21) (k := 6) (v := y51) gu_un.rf (show (2100 : Nat) ∈ ([2100] : List Nat) by decide))) 17 k_ (by simp [ycd]))).trans (nl62 h9).2.2.1, (((show G74 18 = G56 18 from funext fun k_ => (show gu_un ycd [1300] G56 G74 from (gu_un.tr gu_un.rf (gu_un.su hU76 rfl))) 18 k_ (by simp [ycd])).trans ((q61.2 (by omega)).2.2.2)).trans (show (gu_up Gj62 21 6 y51) 18 = Gj62 18 from funext fun k_ => (show gu_un ycd [2100] Gj62 (gu_up Gj62 21 6 y51) from (gu_un.up (j := 21) (k := 6) (v := y51) gu_un.rf (show (2100 : Nat) ∈ ([2100] : List Nat) by decide))) 18 k_ (by simp [ycd]))).trans (nl62 h9).2.2.2⟩) (by have e9_0_35 : G74 0 35 = (Gj62 0 35) := (hU76 0 35 (by decide)).trans (hU58 0 35 (by decide)); have e9_0_36 : G74 0 36 = (Gj62 0 36) := (hU76 0 36 (by decide)).trans (hU58 0 36 (by decide)); (try simp only [e9_0_35, e9_0_36, true_and, and_true]) <;> (first | omega | (simp only [Int32.reduceToInt, true_and, and_true, ne_eq, not_true_eq_false, false_and, or_false, false_or, true_or, or_true, false_implies] <;> omega))) (by rw [show x62_12.toInt % (G 3 11).toInt = y80.toInt by omega]; exact Int.le_refl _) (by (first | omega | (simp only [Int32.reduceToInt, true_and, and_true, ne_eq, not_true_eq_false, false_and, or_false, false_or, true_or, or_true, false_implies] <;> omega)))
  have J_25 : ∀ (fuel : Nat) (x25_8 : Int32) (x25_9 : Int32) (x25_11 : Int32) (Gj25 : gS), (2147483647 - x25_11.toInt).toNat < fuel → ((-9998) ≤ x25_8.toInt ∧ x25_8.toInt ≤ 5000) → ((-9998) ≤ x25_9.toInt ∧ x25_9.toInt ≤ 5000) → (0 ≤ x25_11.toInt ∧ x25_11.toInt ≤ 7) → (yI Gj25) → (gu_un ycd [2100] G Gj25) → (x25_8.toInt = psMx (psHr (G 14) s0 (G 3 0).toInt) ((G 3 0).toInt - 1).toNat) → ((s0 < (G 3 1).toInt → x25_9.toInt = psGa (G 14) s0 (G 3 1).toInt (G 3 0).toInt x25_8.toInt)) → (∀ q : Nat, (q : Int) < x25_11.toInt → Gj25 21 q = 0) → gG p l e (gR 5 0 0 142) s m args below meth c D A 16 Q 0 0 (yW K a Gj25) (tK K) [(0, .ref (a 0)), (1, .int p0), (2, .int p1), (3, .int p2), (4, .int p3), (5, .int p4), (6, .int p5), (7, .int p6), (8, .int x25_8), (9, .int x25_9), (10, .int (G 3 0)), (11, .int x25_11)] 25 [] := by
    intro fuel
    induction fuel with
    | zero => intro x25_8 x25_9 x25_11 Gj25 hm; exact absurd hm (Nat.not_lt_zero _)
    | succ fuel_25 ih_25 =>
      intro x25_8 x25_9 x25_11 Gj25 hm_25 h25_8 h25_9 h25_11 jI25 jU25 lv25 ga25 n0
      refine g_iload F 11 dX13_go_25 rfl ?_
      refine g_bipush F 7 dX13_go_27 (by decide) ?_
      refine v_icmp_ge F 46 dX13_go_29 (by decide) x25_11.toInt 7 rfl rfl (fun c82 => ?_) (fun c82 => ?_)
      · refine g_aload_n F 0 dX13_go_46 rfl rfl ?_
        refine g_iconst F 0 dX13_go_47 (by decide) ?_
        refine yp_0_35 F i_X13 w_1 dX13_go_48 ?_
        refine g_aload_n F 0 dX13_go_51 rfl rfl ?_
        refine g_iconst F 0 dX13_go_52 (by decide) ?_
        refine yp_0_36 F i_X13 w_0 dX13_go_53 ?_
        refine g_iconst F 0 dX13_go_56 (by decide) ?_
        refine g_istore F [(11, .int 0), (0, .ref (a 0)), (1, .int p0), (2, .int p1), (3, .int p2), (4, .int p3), (5, .int p4), (6, .int p5), (7, .int p6), (8, .int x25_8), (9, .int x25_9), (10, .int (G 3 0))] dX13_go_57 (by decide) rfl ?_
        refine g_iconst F 0 dX13_go_59 (by decide) ?_
        refine g_istore F [(12, .int 0), (11, .int 0), (0, .ref (a 0)), (1, .int p0), (2, .int p1), (3, .int p2), (4, .int p3), (5, .int p4), (6, .int p5), (7, .int p6), (8, .int x25_8), (9, .int x25_9), (10, .int (G 3 0))] dX13_go_60 (by decide) rfl ?_
        refine g_locals [(0, .ref (a 0)), (1, .int p0), (2, .int p1), (3, .int p2), (4, .int p3), (5, .int p4), (6, .int p5), (7, .int p6), (8, .int x25_8), (9, .int x25_9), (10, .int (G 3 0)), (11, .int 0), (12, .int 0)] [2, 3, 4, 5, 6, 7, 8, 9, 10, 11, 12, 1, 0] rfl ?_
        exact J_62 _ x25_8 x25_9 0 0 (gu_up (gu_up Gj25 0 35 0) 0 36 0) (Nat.lt_succ_self _) (by have h9 := ti_rng x25_8; omega) (by have h9 := ti_rng x25_9; omega) (by decide) (by decide) (gu_I.up (j := 0) (k := 36) (v := 0) (gu_I.up (j := 0) (k := 35) (v := 0) jI25 (ti_rng _).1 (ti_rng _).2) (ti_rng _).1 (ti_rng _).2) (gu_un.up (j := 0) (k := 36) (v := 0) (gu_un.up (j := 0) (k := 35) (v := 0) (gu_un.tr gu_un.rf (gu_un.su jU25 rfl)) (show (36 : Nat) ∈ ([29, 36, 37, 1300, 1400, 1500, 1600, 1700, 1800, 2100] : List Nat) by decide)) (show (37 : Nat) ∈ ([29, 36, 37, 1300, 1400, 1500, 1600, 1700, 1800, 2100] : List Nat) by decide)) (lv25) (ga25) (yRl.at0 (show (gu_up (gu_up Gj25 0 35 0) 0 36 0) 14 = G 14 from funext fun k_ => (show gu_un ycd [36, 37, 2100] G (gu_up (gu_up Gj25 0 35 0) 0 36 0) from (gu_un.up (j := 0) (k := 36) (v := 0) (gu_un.up (j := 0) (k := 35) (v := 0) (gu_un.tr gu_un.rf (gu_un.su jU25 rfl)) (show (36 : Nat) ∈ ([36, 37, 2100] : List Nat) by decide)) (show (37 : Nat) ∈ ([36, 37, 2100] : List Nat) by decide))) 14 k_ (by simp [ycd])) (show (gu_up (gu_up Gj25 0 35 0) 0 36 0) 0 28 = G 0 28 from (show gu_un ycd [36, 37, 2100] G (gu_up (gu_up Gj25 0 35 0) 0 36 0) from (gu_un.up (j := 0) (k := 36) (v := 0) (gu_un.up (j := 0) (k := 35) (v := 0) (gu_un.tr gu_un.rf (gu_un.su jU25 rfl)) (show (36 : Nat) ∈ ([36, 37, 2100] : List Nat) by decide)) (show (37 : Nat) ∈ ([36, 37, 2100] : List Nat) by decide))) 0 28 (by decide)) ⟨rfl, rfl, (show (gu_up (gu_up Gj25 0 35 0) 0 36 0) 21 1 = 0 from (show (gu_up (gu_up Gj25 0 35 0) 0 36 0) 21 1 = Gj25 21 1 from rfl).trans (n0 1 (by omega))), (show (gu_up (gu_up Gj25 0 35 0) 0 36 0) 21 2 = 0 from (show (gu_up (gu_up Gj25 0 35 0) 0 36 0) 21 2 = Gj25 21 2 from rfl).trans (n0 2 (by omega))), (show (gu_up (gu_up Gj25 0 35 0) 0 36 0) 21 3 = 0 from (show (gu_up (gu_up Gj25 0 35 0) 0 36 0) 21 3 = Gj25 21 3 from rfl).trans (n0 3 (by omega)))⟩ ⟨(show (gu_up (gu_up Gj25 0 35 0) 0 36 0) 15 = G 15 from funext fun k_ => (show gu_un ycd [36, 37, 2100] G (gu_up (gu_up Gj25 0 35 0) 0 36 0) from (gu_un.up (j := 0) (k := 36) (v := 0) (gu_un.up (j := 0) (k := 35) (v := 0) (gu_un.tr gu_un.rf (gu_un.su jU25 rfl)) (show (36 : Nat) ∈ ([36, 37, 2100] : List Nat) by decide)) (show (37 : Nat) ∈ ([36, 37, 2100] : List Nat) by decide))) 15 k_ (by simp [ycd])), (show (gu_up (gu_up Gj25 0 35 0) 0 36 0) 16 = G 16 from funext fun k_ => (show gu_un ycd [36, 37, 2100] G (gu_up (gu_up Gj25 0 35 0) 0 36 0) from (gu_un.up (j := 0) (k := 36) (v := 0) (gu_un.up (j := 0) (k := 35) (v := 0) (gu_un.tr gu_un.rf (gu_un.su jU25 rfl)) (show (36 : Nat) ∈ ([36, 37, 2100] : List Nat) by decide)) (show (37 : Nat) ∈ ([36, 37, 2100] : List Nat) by decide))) 16 k_ (by simp [ycd])), (show (gu_up (gu_up Gj25 0 35 0) 0 36 0) 17 = G 17 from funext fun k_ => (show gu_un ycd [36, 37, 2100] G (gu_up (gu_up Gj25 0 35 0) 0 36 0) from (gu_un.up (j := 0) (k := 36) (v := 0) (gu_un.up (j := 0) (k := 35) (v := 0) (gu_un.tr gu_un.rf (gu_un.su jU25 rfl)) (show (36 : Nat) ∈ ([36, 37, 2100] : List Nat) by decide)) (show (37 : Nat) ∈ ([36, 37, 2100] : List Nat) by decide))) 17 k_ (by simp [ycd])), (show (gu_up (gu_up Gj25 0 35 0) 0 36 0) 18 = G 18 from funext fun k_ => (show gu_un ycd [36, 37, 2100] G (gu_up (gu_up Gj25 0 35 0) 0 36 0) from (gu_un.up (j := 0) (k := 36) (v := 0) (gu_un.up (j := 0) (k := 35) (v := 0) (gu_un.tr gu_un.rf (gu_un.su jU25 rfl)) (show (36 : Nat) ∈ ([36, 37, 2100] : List Nat) by decide)) (show (37 : Nat) ∈ ([36, 37, 2100] : List Nat) by decide))) 18 k_ (by simp [ycd]))⟩) (yOt.un (show gu_un ycd [36, 37, 2100] G (gu_up (gu_up Gj25 0 35 0) 0 36 0) from (gu_un.up (j := 0) (k := 36) (v := 0) (gu_un.up (j := 0) (k := 35) (v := 0) (gu_un.tr gu_un.rf (gu_un.su jU25 rfl)) (show (36 : Nat) ∈ ([36, 37, 2100] : List Nat) by decide)) (show (37 : Nat) ∈ ([36, 37, 2100] : List Nat) by decide))) rfl) (fun _ => ⟨(show (gu_up (gu_up Gj25 0 35 0) 0 36 0) 15 = G 15 from funext fun k_ => (show gu_un ycd [36, 37, 2100] G (gu_up (gu_up Gj25 0 35 0) 0 36 0) from (gu_un.up (j := 0) (k := 36) (v := 0) (gu_un.up (j := 0) (k := 35) (v := 0) (gu_un.tr gu_un.rf (gu_un.su jU25 rfl)) (show (36 : Nat) ∈ ([36, 37, 2100] : List Nat) by decide)) (show (37 : Nat) ∈ ([36, 37, 2100] : List Nat) by decide))) 15 k_ (by simp [ycd])), (show (gu_up (gu_up Gj25 0 35 0) 0 36 0) 16 = G 16 from funext fun k_ => (show gu_un ycd [36, 37, 2100] G (gu_up (gu_up Gj25 0 35 0) 0 36 0) from (gu_un.up (j := 0) (k := 36) (v := 0) (gu_un.up (j := 0) (k := 35) (v := 0) (gu_un.tr gu_un.rf (gu_un.su jU25 rfl)) (show (36 : Nat) ∈ ([36, 37, 2100] : List Nat) by decide)) (show (37 : Nat) ∈ ([36, 37, 2100] : List Nat) by decide))) 16 k_ (by simp [ycd])), (show (gu_up (gu_up Gj25 0 35 0) 0 36 0) 17 = G 17 from funext fun k_ => (show gu_un ycd [36, 37, 2100] G (gu_up (gu_up Gj25 0 35 0) 0 36 0) from (gu_un.up (j := 0) (k := 36) (v := 0) (gu_un.up (j := 0) (k := 35) (v := 0) (gu_un.tr gu_un.rf (gu_un.su jU25 rfl)) (show (36 : Nat) ∈ ([36, 37, 2100] : List Nat) by decide)) (show (37 : Nat) ∈ ([36, 37, 2100] : List Nat) by decide))) 17 k_ (by simp [ycd])), (show (gu_up (gu_up Gj25 0 35 0) 0 36 0) 18 = G 18 from funext fun k_ => (show gu_un ycd [36, 37, 2100] G (gu_up (gu_up Gj25 0 35 0) 0 36 0) from (gu_un.up (j := 0) (k := 36) (v := 0) (gu_un.up (j := 0) (k := 35) (v := 0) (gu_un.tr gu_un.rf (gu_un.su jU25 rfl)) (show (36 : Nat) ∈ ([36, 37, 2100] : List Nat) by decide)) (show (37 : Nat) ∈ ([36, 37, 2100] : List Nat) by decide))) 18 k_ (by simp [ycd]))⟩) (by have e9_0_35 : (gu_up (gu_up Gj25 0 35 0) 0 36 0) 0 35 = 0 := rfl; have e9_0_36 : (gu_up (gu_up Gj25 0 35 0) 0 36 0) 0 36 = 0 := rfl; (try simp only [e9_0_35, e9_0_36, true_and, and_true]) <;> (first | omega | (simp only [Int32.reduceToInt, true_and, and_true, ne_eq, not_true_eq_false, false_and, or_false, false_or, true_or, or_true, false_implies] <;> omega))) (show (0 : Int) ≤ _ from Int.mul_nonneg (by omega) (by omega))
      · refine g_aload_n F 0 dX13_go_32 rfl rfl ?_
        refine yg_0_33 F i_X13 w_3 dX13_go_33 ?_
        refine g_iload F 11 dX13_go_36 rfl ?_
        refine g_iconst F 0 dX13_go_38 (by decide) ?_
        refine u_iast F 21 0 yc_21 rfl x25_11.toInt rfl (by omega) (by omega) (yW K a (gu_up Gj25 21 (x25_11.toInt).toNat 0)) (ys_21 _) dX13_go_39 ?_
        refine u_iinc F (fun v_ => [(11, .int v_), (0, .ref (a 0)), (1, .int p0), (2, .int p1), (3, .int p2), (4, .int p3), (5, .int p4), (6, .int p5), (7, .int p6), (8, .int x25_8), (9, .int x25_9), (10, .int (G 3 0))]) dX13_go_40 (j := 11) rfl x25_11.toInt 1 rfl rfl (by omega) (by omega) (by decide) (fun _ => rfl) (fun y83 ey83 => ?_)
        refine g_goto F 25 dX13_go_43 (by decide) ?_
        refine g_locals [(0, .ref (a 0)), (1, .int p0), (2, .int p1), (3, .int p2), (4, .int p3), (5, .int p4), (6, .int p5), (7, .int p6), (8, .int x25_8), (9, .int x25_9), (10, .int (G 3 0)), (11, .int y83)] [1, 2, 3, 4, 5, 6, 7, 8, 9, 10, 11, 0] rfl ?_
        exact ih_25 x25_8 x25_9 y83 (gu_up Gj25 21 (x25_11.toInt).toNat 0) (by omega) (by have h9 := ti_rng x25_8; omega) (by have h9 := ti_rng x25_9; omega) (by have h9 := ti_rng y83; omega) (gu_I.up (j := 21) (k := (x25_11.toInt).toNat) (v := 0) jI25 (ti_rng _).1 (ti_rng _).2) (gu_un.up (j := 21) (k := (x25_11.toInt).toNat) (v := 0) (gu_un.tr gu_un.rf (gu_un.su jU25 rfl)) (show (2100 : Nat) ∈ ([2100] : List Nat) by decide)) (lv25) (ga25) (pfill_1 (by omega) (by omega) n0)
  refine g_aload_n F 0 dX13_go_0 rfl rfl ?_
  refine g_iload_n F 1 dX13_go_1 rfl rfl ?_
  refine u_callVi (k := 0) (n := 0) (b := a 0) (As := [.int p0]) (st := []) F (fun sz => S_X13_most l D K a G p0 s0 e0 (by omega) hI sz) (cwV 1 hts gX13_go_X13_most rfl rfl rfl (by decide +kernel) ⟨Nat.le_of_ble_eq_true rfl, Nat.le_of_ble_eq_true rfl⟩) rfl 0 yc_0 rfl (Nat.le_of_ble_eq_true rfl) ⟨Nat.zero_le _, Nat.zero_le _⟩ dX13_go_2 (fun r84 _ hw85 => ?_)
  have q87 : (r84.toInt = psMx (psHr (G 14) s0 (G 3 0).toInt) ((G 3 0).toInt - 1).toNat) := hw85.2
  have rg88 := hw85.1
  clear hw85
  refine g_istore F [(8, .int r84), (0, .ref (a 0)), (1, .int p0), (2, .int p1), (3, .int p2), (4, .int p3), (5, .int p4), (6, .int p5), (7, .int p6)] dX13_go_5 (by decide) rfl ?_
  refine g_aload_n F 1 dX13_go_7 rfl rfl ?_
  refine g_iload_n F 2 dX13_go_8 rfl rfl ?_
  refine u_callVi (k := 0) (n := 0) (b := a 0) (As := [.int p0]) (st := []) F (fun sz => S_X13_gapOf l D K a G p0 s0 e0 (by omega) hI sz) (cwV 1 hts gX13_go_X13_gapOf rfl rfl rfl (by decide +kernel) ⟨Nat.le_of_ble_eq_true rfl, Nat.le_of_ble_eq_true rfl⟩) rfl 0 yc_0 rfl (Nat.le_of_ble_eq_true rfl) ⟨Nat.zero_le _, Nat.zero_le _⟩ dX13_go_9 (fun r89 _ hw90 => ?_)
  have q92 : (s0 < (G 3 1).toInt → r89.toInt = psGa (G 14) s0 (G 3 1).toInt (G 3 0).toInt (psMx (psHr (G 14) s0 (G 3 0).toInt) ((G 3 0).toInt - 1).toNat)) := hw90.2
  have rg93 := hw90.1
  clear hw90
  refine g_istore F [(9, .int r89), (8, .int r84), (0, .ref (a 0)), (1, .int p0), (2, .int p1), (3, .int p2), (4, .int p3), (5, .int p4), (6, .int p5), (7, .int p6)] dX13_go_12 (by decide) rfl ?_
  refine g_aload_n F 2 dX13_go_14 rfl rfl ?_
  refine yg_0_10 F i_X13 w_2 dX13_go_15 ?_
  refine g_iconst F 0 dX13_go_18 (by decide) ?_
  refine u1_iald F 3 0 yc_3 rfl 0 rfl (by decide) (by decide) dX13_go_19 (G 3 0) (rfl) ?_
  refine g_istore F [(10, .int (G 3 0)), (9, .int r89), (8, .int r84), (0, .ref (a 0)), (1, .int p0), (2, .int p1), (3, .int p2), (4, .int p3), (5, .int p4), (6, .int p5), (7, .int p6)] dX13_go_20 (by decide) rfl ?_
  refine g_iconst F 0 dX13_go_22 (by decide) ?_
  refine g_istore F [(11, .int 0), (10, .int (G 3 0)), (9, .int r89), (8, .int r84), (0, .ref (a 0)), (1, .int p0), (2, .int p1), (3, .int p2), (4, .int p3), (5, .int p4), (6, .int p5), (7, .int p6)] dX13_go_23 (by decide) rfl ?_
  refine g_locals [(0, .ref (a 0)), (1, .int p0), (2, .int p1), (3, .int p2), (4, .int p3), (5, .int p4), (6, .int p5), (7, .int p6), (8, .int r84), (9, .int r89), (10, .int (G 3 0)), (11, .int 0)] [4, 5, 6, 7, 8, 9, 10, 11, 3, 2, 1, 0] rfl ?_
  exact J_25 _ r84 r89 0 G (Nat.lt_succ_self _) (by have h9 := ti_rng r84; omega) (by have h9 := ti_rng r89; omega) (by decide) hI gu_un.rf (q87) (fun h9 => by have h8 := q92 h9; rw [← q87] at h8; exact h8) (fun q h1 => by have h2 : (q : Int) < 0 := h1; omega)
