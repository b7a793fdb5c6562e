def sp_D (j : Nat) : Int32 := nI (32 * ((j + 19) / 20))
def sp_C (j : Nat) : Int32 := nI ((j + 19) / 20)
def sp_X (w sq fq : Nat) : Nat := if sq = 0 then 1 + (w - fq + 19) / 20 else (w + 19) / 20
def sp_T (w sq fq : Nat) : Int32 := if sq = 0 ∧ fq = 0 then 1000000000 else nI (32 * sp_X w sq fq)
def sp_M (w sq fq : Nat) : Int32 := if sq = 0 ∧ fq = 0 then 1000000000 else nI (sp_X w sq fq)
theorem sp_D_plan {U : Nat} (h1 : 1 ≤ U) : sp_D U = sp_lt (min U 20) U := by
  unfold sp_D sp_lt
  rw [if_neg (by omega), if_neg (by omega)]
  by_cases h : U ≤ 20
  · rw [Nat.min_eq_left h, show (U + 19) / 20 = 1 by omega, show U + (U - 1) = (U - 1) + U by omega, Nat.add_div_right _ (by omega), Nat.div_eq_of_lt (by omega)]
  · rw [Nat.min_eq_right (by omega)]
theorem sp_T0 {w fq : Nat} (h : 1 ≤ fq) : sp_T w 0 fq = nI (32 * (1 + (w - fq + 19) / 20)) ∧ sp_M w 0 fq = nI (1 + (w - fq + 19) / 20) := by
  unfold sp_T sp_M sp_X
  have h9 : ¬ (0 = 0 ∧ fq = 0) := by omega
  exact ⟨(if_neg h9).trans rfl, (if_neg h9).trans rfl⟩
theorem sp_Ts {w sq fq : Nat} (h : 1 ≤ sq) : sp_T w sq fq = nI (32 * ((w + 19) / 20)) ∧ sp_M w sq fq = nI ((w + 19) / 20) := by
  unfold sp_T sp_M sp_X
  have h9 : ¬ (sq = 0 ∧ fq = 0) := by omega
  have h8 : ¬ sq = 0 := by omega
  rw [if_neg h9, if_neg h9, if_neg h8]
  exact ⟨rfl, rfl⟩
theorem sp_T20 {w sq : Nat} (hw : 1 ≤ w) : sp_T w sq 20 = sp_T w (sq + 1) 0 ∧ sp_M w sq 20 = sp_M w (sq + 1) 0 := by
  rw [(sp_Ts (w := w) (sq := sq + 1) (fq := 0) (by omega)).1, (sp_Ts (w := w) (sq := sq + 1) (fq := 0) (by omega)).2]
  rcases Nat.eq_zero_or_pos sq with e | e
  · subst e
    rw [(sp_T0 (w := w) (fq := 20) (by decide)).1, (sp_T0 (w := w) (fq := 20) (by decide)).2]
    exact ⟨congrArg nI (by omega), congrArg nI (by omega)⟩
  · exact sp_Ts e
theorem sp_T9 {w : Nat} : sp_T w 9 0 = sp_D w ∧ sp_M w 9 0 = sp_C w := ⟨rfl, rfl⟩
/-- the table of what is quiet, as far as it is made: speed 1 -/
def sp_mq (U sq fq : Nat) (qQ : Nat → Int32) : Prop := ∀ f, 1 ≤ f → f ≤ 20 → (1 ≤ sq ∨ f ≤ fq) → qQ (21 + f) = if f ≤ U then 1 else 0
theorem sp_mq1 {U sq fq : Nat} {qQ : Nat → Int32} {v : Int32} (h : sp_mq U sq fq qQ) (hf : fq < 20) (hv : sq = 0 → v = if fq + 1 ≤ U then 1 else 0) : sp_mq U sq (fq + 1) (upd qQ (21 * (sq + 1) + (fq + 1)) v) := by
  intro f h1 h2 h3
  by_cases e : 21 + f = 21 * (sq + 1) + (fq + 1)
  · rw [e, pk_us]
    have : sq = 0 := by omega
    rw [hv this, show fq + 1 = f by omega]
  · rw [pk_un e]
    exact h f h1 h2 (by omega)
theorem sp_mq2 {U sq : Nat} {qQ : Nat → Int32} (h : sp_mq U sq 20 qQ) : sp_mq U (sq + 1) 0 qQ := fun f h1 h2 _ => h f h1 h2 (by omega)
def sp_pa (w : Nat) (t t2 : Int32) (hT hM : Nat → Int32) : Prop := (∀ j, j < w → hT j = sp_D j ∧ hM j = sp_C j) ∧ hT w = t ∧ hM w = t2
theorem sp_pa1 {w : Nat} {hT hM : Nat → Int32} (t t2 : Int32) (h : ∀ j, j < w → hT j = sp_D j ∧ hM j = sp_C j) : sp_pa w t t2 (upd hT w t) (upd hM w t2) := ⟨fun j hj => by rw [pk_un (by omega), pk_un (by omega)]; exact h j hj, pk_us, pk_us⟩
theorem sp_pa2 {w : Nat} {hT hM : Nat → Int32} (h : sp_pa w (sp_D w) (sp_C w) hT hM) : ∀ j, j < w + 1 → hT j = sp_D j ∧ hM j = sp_C j := fun j hj => by
  by_cases e : j = w
  · subst e; exact ⟨h.2.1, h.2.2⟩
  · exact h.1 j (by omega)
abbrev sp_go (w sq fq : Nat) (q t t2 : Int32) : Prop := (fq + 1 ≤ w ∧ ¬ q = 0) ∧ (32 * nI (sq + 1) + sp_D (w - (fq + 1)) < t ∨ (32 * nI (sq + 1) + sp_D (w - (fq + 1)) = t ∧ 1 + sp_C (w - (fq + 1)) < t2))
theorem sp_tt {w sq fq : Nat} : 32 * nI (sq + 1) + sp_D (w - (fq + 1)) = nI (32 * (sq + 1) + 32 * ((w - (fq + 1) + 19) / 20)) := by
  unfold sp_D
  rw [show (32 : Int32) = nI 32 from rfl, pk_mul, nI_add]
theorem sp_never (w fq : Nat) (hw : w ≤ 100) : nI (32 * (0 + 1) + 32 * ((w - (fq + 1) + 19) / 20)) < 1000000000 := by
  rw [show (1000000000 : Int32) = nI 1000000000 from rfl, nI_ltI (by omega) (by decide)]
  omega
theorem sp_go_y {w sq fq : Nat} {q : Int32} (hw : w ≤ 100) (h1 : 1 ≤ w) (hf : fq < 20) (hs : sq < 9) (h : sp_go w sq fq q (sp_T w sq fq) (sp_M w sq fq)) : 32 * nI (sq + 1) + sp_D (w - (fq + 1)) = sp_T w sq (fq + 1) ∧ 1 + sp_C (w - (fq + 1)) = sp_M w sq (fq + 1) := by
  obtain ⟨⟨h2, h3⟩, h4⟩ := h
  rw [sp_tt] at h4 ⊢
  have hz : sq = 0 := by
    rcases Nat.eq_zero_or_pos sq with e | e
    · exact e
    · exfalso
      rw [(sp_Ts e).1, nI_ltI (by omega) (by omega), nI_eq (by omega) (by omega)] at h4
      omega
  subst hz
  rw [(sp_T0 (w := w) (fq := fq + 1) (by omega)).1, (sp_T0 (w := w) (fq := fq + 1) (by omega)).2]
  unfold sp_C
  rw [show (1 : Int32) = nI 1 from rfl, nI_add]
  exact ⟨congrArg nI (by omega), rfl⟩
theorem sp_go_n {w sq fq U : Nat} {q : Int32} (hw : w ≤ 100) (hU : w ≤ U) (h1 : 1 ≤ w) (hf : fq < 20) (hq : sq = 0 → q = if fq + 1 ≤ U then 1 else 0) (h : ¬ sp_go w sq fq q (sp_T w sq fq) (sp_M w sq fq)) : sp_T w sq fq = sp_T w sq (fq + 1) ∧ sp_M w sq fq = sp_M w sq (fq + 1) := by
  rcases Nat.eq_zero_or_pos sq with e | e
  · subst e
    by_cases h2 : fq + 1 ≤ w
    · have hq2 : ¬ q = 0 := by rw [hq rfl, if_pos (by omega)]; decide
      have h3 : ¬ (32 * nI (0 + 1) + sp_D (w - (fq + 1)) < sp_T w 0 fq) := fun r => h ⟨⟨h2, hq2⟩, Or.inl r⟩
      rw [sp_tt] at h3
      by_cases h0 : fq = 0
      · exfalso
        subst h0
        exact h3 (sp_never w 0 hw)
      · rw [(sp_T0 (w := w) (fq := fq) (by omega)).1] at h3
        rw [(sp_T0 (w := w) (fq := fq) (by omega)).1, (sp_T0 (w := w) (fq := fq) (by omega)).2, (sp_T0 (w := w) (fq := fq + 1) (by omega)).1, (sp_T0 (w := w) (fq := fq + 1) (by omega)).2]
        rw [nI_ltI (by omega) (by omega)] at h3
        exact ⟨congrArg nI (by omega), congrArg nI (by omega)⟩
    · rw [(sp_T0 (w := w) (fq := fq) (by omega)).1, (sp_T0 (w := w) (fq := fq) (by omega)).2, (sp_T0 (w := w) (fq := fq + 1) (by omega)).1, (sp_T0 (w := w) (fq := fq + 1) (by omega)).2]
      exact ⟨congrArg nI (by omega), congrArg nI (by omega)⟩
  · rw [(sp_Ts (w := w) (fq := fq) e).1, (sp_Ts (w := w) (fq := fq) e).2, (sp_Ts (w := w) (fq := fq + 1) e).1, (sp_Ts (w := w) (fq := fq + 1) e).2]
    exact ⟨rfl, rfl⟩
abbrev sp_on (u mk : Nat) (q : Int32) : Prop := (mk + 1 ≤ u ∧ ¬ q = 0) ∧ (32 + sp_D (u - (mk + 1)) = sp_D u ∧ 1 + sp_C (u - (mk + 1)) = sp_C u)
theorem sp_on_n {u mk U : Nat} {q : Int32} (hu : u ≤ U) (hU : U ≤ 100) (h1 : 1 ≤ u) (hm : mk ≤ (u - 1) % 20) (hq : q = if mk + 1 ≤ U then 1 else 0) (h : ¬ sp_on u mk q) : mk + 1 ≤ (u - 1) % 20 := by
  rcases Nat.lt_or_ge mk ((u - 1) % 20) with e | e
  · exact e
  · exfalso
    have e2 : mk = (u - 1) % 20 := by omega
    refine h ⟨⟨by omega, by rw [hq, if_pos (by omega)]; decide⟩, ?_, ?_⟩
    · unfold sp_D
      rw [show (32 : Int32) = nI 32 from rfl, nI_add]
      exact congrArg nI (by omega)
    · unfold sp_C
      rw [show (1 : Int32) = nI 1 from rfl, nI_add]
      exact congrArg nI (by omega)
theorem sp_D_never {j : Nat} (h : j ≤ 100) : sp_D j < 1000000000 := by
  unfold sp_D
  rw [show (1000000000 : Int32) = nI 1000000000 from rfl, nI_ltI (by omega) (by decide)]
  omega

theorem dX13_pairOf_0 : decode cX13_pairOf 0 = .ok (.bipush 21, 2) := by decide +kernel
theorem dX13_pairOf_2 : decode cX13_pairOf 2 = .ok (.iload_n 0, 1) := by decide +kernel
theorem dX13_pairOf_3 : decode cX13_pairOf 3 = .ok (.imul, 1) := by decide +kernel
theorem dX13_pairOf_4 : decode cX13_pairOf 4 = .ok (.iload_n 1, 1) := by decide +kernel
theorem dX13_pairOf_5 : decode cX13_pairOf 5 = .ok (.iadd, 1) := by decide +kernel
theorem dX13_pairOf_6 : decode cX13_pairOf 6 = .ok (.ireturn, 1) := by decide +kernel
set_option maxHeartbeats 4000000 in
set_option maxRecDepth 100000 in
theorem K_X13_pairOf (l : Launch) (D : va_G) (a : Int32) (b : Int32) (sz : Nat) : Ki l yX13_pairOf wsX13_pairOf 1 30 0 0 D [.int a, .int b] [] [] sz (fun (r : Int32) (_ : Unit) => r = ((21 * a) + b)) (fun (_ : Unit) => []) (fun (_ : Unit) => []) := by
  unfold Ki
  refine g_ofW (cc := cX13_pairOf) (lv := [(0, .int a), (1, .int b)]) (by decide) rfl (Nat.le_of_ble_eq_true rfl) rfl ?_
  intro p e s m args below meth c A Q hA hQ F hr hnm
  have hts := F.2.2.2.2.1
  refine g_bipush F 21 dX13_pairOf_0 (by decide) ?_
  refine g_iload_n F 0 dX13_pairOf_2 rfl rfl ?_
  refine g_imul F dX13_pairOf_3 ?_
  refine g_iload_n F 1 dX13_pairOf_4 rfl rfl ?_
  refine g_iadd F dX13_pairOf_5 ?_
  exact g_iret F hA hQ hr () (rfl) [] [] rfl (by decide) rfl rfl dX13_pairOf_6

theorem dX13_feedOf_0 : decode cX13_feedOf 0 = .ok (.iload_n 0, 1) := by decide +kernel
theorem dX13_feedOf_1 : decode cX13_feedOf 1 = .ok (.iconst 1, 1) := by decide +kernel
theorem dX13_feedOf_2 : decode cX13_feedOf 2 = .ok (.isub, 1) := by decide +kernel
theorem dX13_feedOf_3 : decode cX13_feedOf 3 = .ok (.bipush 20, 2) := by decide +kernel
theorem dX13_feedOf_5 : decode cX13_feedOf 5 = .ok (.irem, 1) := by decide +kernel
theorem dX13_feedOf_6 : decode cX13_feedOf 6 = .ok (.iconst 1, 1) := by decide +kernel
theorem dX13_feedOf_7 : decode cX13_feedOf 7 = .ok (.iadd, 1) := by decide +kernel
theorem dX13_feedOf_8 : decode cX13_feedOf 8 = .ok (.ireturn, 1) := by decide +kernel
set_option maxHeartbeats 4000000 in
set_option maxRecDepth 100000 in
theorem K_X13_feedOf (l : Launch) (D : va_G) (mk : Nat) (hmk : mk < 20) (sz : Nat) : Ki l yX13_feedOf wsX13_feedOf 1 30 0 0 D [.int (nI (21 + mk))] [] [] sz (fun (r : Int32) (_ : Unit) => r = (nI (mk + 1))) (fun (_ : Unit) => []) (fun (_ : Unit) => []) := by
  unfold Ki
  refine g_ofW (cc := cX13_feedOf) (lv := [(0, .int (nI (21 + mk)))]) (by decide) rfl (Nat.le_of_ble_eq_true rfl) rfl ?_
  intro p e s m args below meth c A Q hA hQ F hr hnm
  have hts := F.2.2.2.2.1
  refine g_iload_n F 0 dX13_feedOf_0 rfl rfl ?_
  refine g_iconst F 1 dX13_feedOf_1 (by decide) ?_
  refine g_isub F dX13_feedOf_2 ?_
  refine g_fold (nI (20 + mk)) (by rw [show 21 + mk = (20 + mk) + 1 by omega]; exact nI_pred _) ?_
  refine g_bipush F 20 dX13_feedOf_3 (by decide) ?_
  refine g_irem F dX13_feedOf_5 (by decide) ?_
  refine g_fold (nI ((20 + mk) % 20)) (pk_rem (d := 20) (by omega) (by decide) (by decide)) ?_
  refine g_iconst F 1 dX13_feedOf_6 (by decide) ?_
  refine g_iadd F dX13_feedOf_7 ?_
  refine g_fold (nI (mk + 1)) (by rw [nI_1]; exact congrArg nI (by omega)) ?_
  exact g_iret F hA hQ hr () (rfl) [] [] rfl (by decide) rfl rfl dX13_feedOf_8

theorem dX13_speedOf_0 : decode cX13_speedOf 0 = .ok (.iload_n 0, 1) := by decide +kernel
theorem dX13_speedOf_1 : decode cX13_speedOf 1 = .ok (.iconst 1, 1) := by decide +kernel
theorem dX13_speedOf_2 : decode cX13_speedOf 2 = .ok (.isub, 1) := by decide +kernel
theorem dX13_speedOf_3 : decode cX13_speedOf 3 = .ok (.bipush 20, 2) := by decide +kernel
theorem dX13_speedOf_5 : decode cX13_speedOf 5 = .ok (.idiv, 1) := by decide +kernel
theorem dX13_speedOf_6 : decode cX13_speedOf 6 = .ok (.ireturn, 1) := by decide +kernel
set_option maxHeartbeats 4000000 in
set_option maxRecDepth 100000 in
theorem K_X13_speedOf (l : Launch) (D : va_G) (mk : Nat) (hmk : mk < 20) (sz : Nat) : Ki l yX13_speedOf wsX13_speedOf 1 30 0 0 D [.int (nI (21 + mk))] [] [] sz (fun (r : Int32) (_ : Unit) => r = 1) (fun (_ : Unit) => []) (fun (_ : Unit) => []) := by
  unfold Ki
  refine g_ofW (cc := cX13_speedOf) (lv := [(0, .int (nI (21 + mk)))]) (by decide) rfl (Nat.le_of_ble_eq_true rfl) rfl ?_
  intro p e s m args below meth c A Q hA hQ F hr hnm
  have hts := F.2.2.2.2.1
  refine g_iload_n F 0 dX13_speedOf_0 rfl rfl ?_
  refine g_iconst F 1 dX13_speedOf_1 (by decide) ?_
  refine g_isub F dX13_speedOf_2 ?_
  refine g_fold (nI (20 + mk)) (by rw [show 21 + mk = (20 + mk) + 1 by omega]; exact nI_pred _) ?_
  refine g_bipush F 20 dX13_speedOf_3 (by decide) ?_
  refine g_idiv F dX13_speedOf_5 (by decide) ?_
  refine g_fold 1 (by rw [show (20 : Int32) = nI 20 from rfl, pk_div (by omega) (by decide) (by decide)]; exact congrArg nI (show (20 + mk) / 20 = 1 by omega)) ?_
  exact g_iret F hA hQ hr () (rfl) [] [] rfl (by decide) rfl rfl dX13_speedOf_6

theorem dX13_goesBy_0 : decode cX13_goesBy 0 = .ok (.iload_n 3, 1) := by decide +kernel
theorem dX13_goesBy_1 : decode cX13_goesBy 1 = .ok (.iload_n 1, 1) := by decide +kernel
theorem dX13_goesBy_2 : decode cX13_goesBy 2 = .ok (.if_icmp .gt 30, 3) := by decide +kernel
theorem dX13_goesBy_5 : decode cX13_goesBy 5 = .ok (.aload_n 0, 1) := by decide +kernel
theorem dX13_goesBy_6 : decode cX13_goesBy 6 = .ok (.getfield 250, 3) := by decide +kernel
theorem dX13_goesBy_9 : decode cX13_goesBy 9 = .ok (.iload_n 2, 1) := by decide +kernel
theorem dX13_goesBy_10 : decode cX13_goesBy 10 = .ok (.iload_n 3, 1) := by decide +kernel
theorem dX13_goesBy_11 : decode cX13_goesBy 11 = .ok (.invokestatic 460, 3) := by decide +kernel
theorem dX13_goesBy_14 : decode cX13_goesBy 14 = .ok (.baload, 1) := by decide +kernel
theorem dX13_goesBy_15 : decode cX13_goesBy 15 = .ok (.ifCond .eq 17, 3) := by decide +kernel
theorem dX13_goesBy_18 : decode cX13_goesBy 18 = .ok (.aload_n 0, 1) := by decide +kernel
theorem dX13_goesBy_19 : decode cX13_goesBy 19 = .ok (.getfield 241, 3) := by decide +kernel
theorem dX13_goesBy_22 : decode cX13_goesBy 22 = .ok (.iload_n 1, 1) := by decide +kernel
theorem dX13_goesBy_23 : decode cX13_goesBy 23 = .ok (.iload_n 3, 1) := by decide +kernel
theorem dX13_goesBy_24 : decode cX13_goesBy 24 = .ok (.isub, 1) := by decide +kernel
theorem dX13_goesBy_25 : decode cX13_goesBy 25 = .ok (.iaload, 1) := by decide +kernel
theorem dX13_goesBy_26 : decode cX13_goesBy 26 = .ok (.ldc_w 391, 3) := by decide +kernel
theorem dX13_goesBy_29 : decode cX13_goesBy 29 = .ok (.if_icmp .lt 5, 3) := by decide +kernel
theorem dX13_goesBy_32 : decode cX13_goesBy 32 = .ok (.iconst 0, 1) := by decide +kernel
theorem dX13_goesBy_33 : decode cX13_goesBy 33 = .ok (.ireturn, 1) := by decide +kernel
theorem dX13_goesBy_34 : decode cX13_goesBy 34 = .ok (.aload_n 0, 1) := by decide +kernel
theorem dX13_goesBy_35 : decode cX13_goesBy 35 = .ok (.iload_n 2, 1) := by decide +kernel
theorem dX13_goesBy_36 : decode cX13_goesBy 36 = .ok (.invokevirtual 457, 3) := by decide +kernel
theorem dX13_goesBy_39 : decode cX13_goesBy 39 = .ok (.aload_n 0, 1) := by decide +kernel
theorem dX13_goesBy_40 : decode cX13_goesBy 40 = .ok (.getfield 241, 3) := by decide +kernel
theorem dX13_goesBy_43 : decode cX13_goesBy 43 = .ok (.iload_n 1, 1) := by decide +kernel
theorem dX13_goesBy_44 : decode cX13_goesBy 44 = .ok (.iload_n 3, 1) := by decide +kernel
theorem dX13_goesBy_45 : decode cX13_goesBy 45 = .ok (.isub, 1) := by decide +kernel
theorem dX13_goesBy_46 : decode cX13_goesBy 46 = .ok (.iaload, 1) := by decide +kernel
theorem dX13_goesBy_47 : decode cX13_goesBy 47 = .ok (.iadd, 1) := by decide +kernel
theorem dX13_goesBy_48 : decode cX13_goesBy 48 = .ok (.istore 6, 2) := by decide +kernel
theorem dX13_goesBy_50 : decode cX13_goesBy 50 = .ok (.iload 6, 2) := by decide +kernel
theorem dX13_goesBy_52 : decode cX13_goesBy 52 = .ok (.iload 4, 2) := by decide +kernel
theorem dX13_goesBy_54 : decode cX13_goesBy 54 = .ok (.if_icmp .lt 25, 3) := by decide +kernel
theorem dX13_goesBy_57 : decode cX13_goesBy 57 = .ok (.iload 6, 2) := by decide +kernel
theorem dX13_goesBy_59 : decode cX13_goesBy 59 = .ok (.iload 4, 2) := by decide +kernel
theorem dX13_goesBy_61 : decode cX13_goesBy 61 = .ok (.if_icmp .ne 22, 3) := by decide +kernel
theorem dX13_goesBy_64 : decode cX13_goesBy 64 = .ok (.iconst 1, 1) := by decide +kernel
theorem dX13_goesBy_65 : decode cX13_goesBy 65 = .ok (.aload_n 0, 1) := by decide +kernel
theorem dX13_goesBy_66 : decode cX13_goesBy 66 = .ok (.getfield 244, 3) := by decide +kernel
theorem dX13_goesBy_69 : decode cX13_goesBy 69 = .ok (.iload_n 1, 1) := by decide +kernel
theorem dX13_goesBy_70 : decode cX13_goesBy 70 = .ok (.iload_n 3, 1) := by decide +kernel
theorem dX13_goesBy_71 : decode cX13_goesBy 71 = .ok (.isub, 1) := by decide +kernel
theorem dX13_goesBy_72 : decode cX13_goesBy 72 = .ok (.iaload, 1) := by decide +kernel
theorem dX13_goesBy_73 : decode cX13_goesBy 73 = .ok (.iadd, 1) := by decide +kernel
theorem dX13_goesBy_74 : decode cX13_goesBy 74 = .ok (.iload 5, 2) := by decide +kernel
theorem dX13_goesBy_76 : decode cX13_goesBy 76 = .ok (.if_icmp .ge 7, 3) := by decide +kernel
theorem dX13_goesBy_79 : decode cX13_goesBy 79 = .ok (.iconst 1, 1) := by decide +kernel
theorem dX13_goesBy_80 : decode cX13_goesBy 80 = .ok (.goto 4, 3) := by decide +kernel
theorem dX13_goesBy_83 : decode cX13_goesBy 83 = .ok (.iconst 0, 1) := by decide +kernel
theorem dX13_goesBy_84 : decode cX13_goesBy 84 = .ok (.ireturn, 1) := by decide +kernel
set_option maxRecDepth 20000 in
theorem ggX13_goesBy_X13_pairOf : GoodIn wsX13_goesBy wsX13_pairOf := goodIn_r _ [8] rfl (by decide +kernel)
set_option maxRecDepth 20000 in
theorem gX13_goesBy_X13_pairOf : GoodIn wsX13_goesBy (va_wsS RX13 460 yX13_pairOf wsX13_pairOf) := goodIn_app (goodIn_of _ (by decide +kernel)) ggX13_goesBy_X13_pairOf
set_option maxRecDepth 20000 in
theorem ggX13_goesBy_X13_timeOf : GoodIn wsX13_goesBy wsX13_timeOf := goodIn_r _ [12, 13, 14, 15, 16, 17, 18, 19, 20, 21, 22, 23, 24, 25, 26, 27, 28, 29, 30, 31, 32, 33, 34, 35, 36, 37, 38, 39, 40, 41, 42, 43, 44, 45, 46, 47, 48, 49, 50, 51, 52, 53, 54, 55, 56, 57, 58, 59, 60, 61, 62, 63, 64, 65, 66, 67, 68, 69, 70, 71, 72, 73, 74, 75, 76, 77, 78, 79, 80, 81, 82, 83, 84, 85, 86, 87] rfl (by decide +kernel)
set_option maxRecDepth 20000 in
theorem gX13_goesBy_X13_timeOf : GoodIn wsX13_goesBy (wsV RX13 457 RX13 yX13_timeOf wsX13_timeOf) := goodIn_app (goodIn_of _ (by decide +kernel)) ggX13_goesBy_X13_timeOf
set_option maxHeartbeats 4000000 in
set_option maxRecDepth 100000 in
theorem K_X13_goesBy (l : Launch) (D : va_G) (m0 : Nat) (m_stop : Nat) (m_tape : Nat) (i_taped : Int32) (i_length : Int32) (i_from : Int32) (i_behind : Int32) (i_hand : Int32) (i_value : Int32) (i_fault : Int32) (i_faultAt : Int32) (m_rule : Nat) (m_readRule : Nat) (m_teeth : Nat) (m_readTeeth : Nat) (m_sway : Nat) (m_readSway : Nat) (m_isTold : Nat) (m_markKind : Nat) (m_markValue : Nat) (m_marks : Nat) (i_sum : Int32) (i_parts : Int32) (m_pile : Nat) (m_height : Nat) (m_leftPass : Nat) (m_leftTurn : Nat) (m_leftTooth : Nat) (m_leftX : Nat) (i_wear : Int32) (i_cuts : Int32) (m_kept : Nat) (m_keptWear : Nat) (i_deep : Int32) (m_now : Nat) (m_passed : Nat) (i_x : Int32) (i_v : Int32) (i_hasPassed : Int32) (m_planTime : Nat) (m_planMany : Nat) (m_planned : Nat) (m_isQuiet : Nat) (i_plans : Int32) (i_hasPlan : Int32) (m_keptTeeth : Nat) (i_jobs : Int32) (i_orderBest : Int32) (m_jobRing : Nat) (m_jobSpeed : Nat) (m_jobFeed : Nat) (m_jobTurns : Nat) (m_orderRow : Nat) (m_bestRow : Nat) (i_hasOrder : Int32) (m_orderTold : Nat) (i_offers : Int32) (i_heards : Int32) (i_rights : Int32) (i_telling : Int32) (m_offerRing : Nat) (m_offerSpeed : Nat) (m_offerFeed : Nat) (m_offerTurns : Nat) (m_heardOffer : Nat) (m_heardVerdict : Nat) (m_heardAt : Nat) (m_rightOf : Nat) (m_rightVerdict : Nat) (m_rightAt : Nat) (m_verdictOf : Nat) (m_sound : Nat) (m_readSound : Nat) (i_sounds : Int32) (cI : ClassId) (cZ : ClassId) (qQ : Nat → Int32) (hT : Nat → Int32) (hM : Nat → Int32) (tm : Int32) (mn : Int32) (w : Nat) (sq : Nat) (fq : Nat) (hw : w ≤ 100) (hs9 : sq < 9) (hf9 : fq < 20) (hd9 : ∀ j, j < w → hT j = sp_D j ∧ hM j = sp_C j) (sz : Nat) : Ki l yX13_goesBy wsX13_goesBy 2 63 0 0 D [.ref m0, .int (nI w), .int (nI (sq + 1)), .int (nI (fq + 1)), .int tm, .int mn] [(m0, .inr (12, [.ref m_stop, .ref m_tape, .int i_taped, .int i_length, .int i_from, .int i_behind, .int i_hand, .int i_value, .int i_fault, .int i_faultAt, .ref m_rule, .ref m_readRule, .ref m_teeth, .ref m_readTeeth, .ref m_sway, .ref m_readSway, .ref m_isTold, .ref m_markKind, .ref m_markValue, .ref m_marks, .int i_sum, .int i_parts, .ref m_pile, .ref m_height, .ref m_leftPass, .ref m_leftTurn, .ref m_leftTooth, .ref m_leftX, .int i_wear, .int i_cuts, .ref m_kept, .ref m_keptWear, .int i_deep, .ref m_now, .ref m_passed, .int i_x, .int i_v, .int i_hasPassed, .ref m_planTime, .ref m_planMany, .ref m_planned, .ref m_isQuiet, .int i_plans, .int i_hasPlan, .ref m_keptTeeth, .int i_jobs, .int i_orderBest, .ref m_jobRing, .ref m_jobSpeed, .ref m_jobFeed, .ref m_jobTurns, .ref m_orderRow, .ref m_bestRow, .int i_hasOrder, .ref m_orderTold, .int i_offers, .int i_heards, .int i_rights, .int i_telling, .ref m_offerRing, .ref m_offerSpeed, .ref m_offerFeed, .ref m_offerTurns, .ref m_heardOffer, .ref m_heardVerdict, .ref m_heardAt, .ref m_rightOf, .ref m_rightVerdict, .ref m_rightAt, .ref m_verdictOf, .ref m_sound, .ref m_readSound, .int i_sounds])), (m_rule, .inl (cI, 12, .inl gz_untold)), (m_sway, .inl (cI, 6, .inl (upd (fun _ => 0) 0 0))), (m_isQuiet, .inl (cZ, 210, .inl qQ)), (m_planTime, .inl (cI, 401, .inl hT)), (m_planMany, .inl (cI, 401, .inl hM))] [(cI, .int), (cZ, .boolean)] sz (fun (r : Int32) (_ : Unit) => r = (if sp_go w sq fq (qQ (21 * (sq + 1) + (fq + 1))) tm mn then 1 else 0)) (fun (_ : Unit) => [(m0, .inr (12, [.ref m_stop, .ref m_tape, .int i_taped, .int i_length, .int i_from, .int i_behind, .int i_hand, .int i_value, .int i_fault, .int i_faultAt, .ref m_rule, .ref m_readRule, .ref m_teeth, .ref m_readTeeth, .ref m_sway, .ref m_readSway, .ref m_isTold, .ref m_markKind, .ref m_markValue, .ref m_marks, .int i_sum, .int i_parts, .ref m_pile, .ref m_height, .ref m_leftPass, .ref m_leftTurn, .ref m_leftTooth, .ref m_leftX, .int i_wear, .int i_cuts, .ref m_kept, .ref m_keptWear, .int i_deep, .ref m_now, .ref m_passed, .int i_x, .int i_v, .int i_hasPassed, .ref m_planTime, .ref m_planMany, .ref m_planned, .ref m_isQuiet, .int i_plans, .int i_hasPlan, .ref m_keptTeeth, .int i_jobs, .int i_orderBest, .ref m_jobRing, .ref m_jobSpeed, .ref m_jobFeed, .ref m_jobTurns, .ref m_orderRow, .ref m_bestRow, .int i_hasOrder, .ref m_orderTold, .int i_offers, .int i_heards, .int i_rights, .int i_telling, .ref m_offerRing, .ref m_offerSpeed, .ref m_offerFeed, .ref m_offerTurns, .ref m_heardOffer, .ref m_heardVerdict, .ref m_heardAt, .ref m_rightOf, .ref m_rightVerdict, .ref m_rightAt, .ref m_verdictOf, .ref m_sound, .ref m_readSound, .int i_sounds])), (m_rule, .inl (cI, 12, .inl gz_untold)), (m_sway, .inl (cI, 6, .inl (upd (fun _ => 0) 0 0))), (m_isQuiet, .inl (cZ, 210, .inl qQ)), (m_planTime, .inl (cI, 401, .inl hT)), (m_planMany, .inl (cI, 401, .inl hM))]) (fun (_ : Unit) => [(cI, .int), (cZ, .boolean)]) := by
  unfold Ki
  refine g_ofW (cc := cX13_goesBy) (lv := [(0, .ref m0), (1, .int (nI w)), (2, .int (nI (sq + 1))), (3, .int (nI (fq + 1))), (4, .int tm), (5, .int mn)]) (by decide) rfl (Nat.le_of_ble_eq_true rfl) rfl ?_
  intro p e s m args below meth c A Q hA hQ F hr hnm
  have hts := F.2.2.2.2.1
  have w_0 : (Cond.fieldLink RX13 250 "QuietCutModel" "isQuiet" "[Z").before args s = true := hts _ (List.mem_of_getElem? (i := 1) rfl)
  have i_X13 : ∀ w ∈ u_ws RX13 TX13 73, w ∈ wsX13_goesBy := fun _ h => List.mem_cons_of_mem _ (List.mem_append_right _ h)
  have w_1 : (Cond.fieldLink RX13 241 "QuietCutModel" "planTime" "[I").before args s = true := hts _ (List.mem_of_getElem? (i := 2) rfl)
  have w_2 : (Cond.constant RX13 391 (1000000000)).before args s = true := hts _ (List.mem_of_getElem? (i := 3) rfl)
  have w_3 : (Cond.fieldLink RX13 244 "QuietCutModel" "planMany" "[I").before args s = true := hts _ (List.mem_of_getElem? (i := 4) rfl)
  refine g_iload_n F 3 dX13_goesBy_0 rfl rfl ?_
  refine g_iload_n F 1 dX13_goesBy_1 rfl rfl ?_
  refine g_icmp_gt F 32 dX13_goesBy_2 (by decide) (fun c_2 => ?_) (fun c_2 => ?_)
  · refine g_iconst F 0 dX13_goesBy_32 (by decide) ?_
    exact g_zret F hA hQ hr rfl () (gb_f (fun h9 => absurd c_2 (nI_nlt (by omega) (by have := h9.1.1; omega)))) [0, 1, 2, 3, 4, 5] [0, 1] rfl (by decide) rfl rfl dX13_goesBy_33
  · have hwf : fq + 1 ≤ w := by rcases Nat.lt_or_ge w (fq + 1) with h | h; exact absurd (nI_lt h (by omega)) c_2; exact h
    refine g_aload_n F 0 dX13_goesBy_5 rfl rfl ?_
    refine g_get (C := RX13) (T := TX13) (N := 73) (v := .ref m_isQuiet) F i_X13 0 rfl rfl 41 (by decide) w_0 rfl rfl dX13_goesBy_6 ?_
    refine g_iload_n F 2 dX13_goesBy_9 rfl rfl ?_
    refine g_iload_n F 3 dX13_goesBy_10 rfl rfl ?_
    refine g_callSi (k := 0) (n := 0) (As := [.int (nI (sq + 1)), .int (nI (fq + 1))]) (st := [.ref m_isQuiet]) (wc := []) (wr := [(m0, .inr (12, [.ref m_stop, .ref m_tape, .int i_taped, .int i_length, .int i_from, .int i_behind, .int i_hand, .int i_value, .int i_fault, .int i_faultAt, .ref m_rule, .ref m_readRule, .ref m_teeth, .ref m_readTeeth, .ref m_sway, .ref m_readSway, .ref m_isTold, .ref m_markKind, .ref m_markValue, .ref m_marks, .int i_sum, .int i_parts, .ref m_pile, .ref m_height, .ref m_leftPass, .ref m_leftTurn, .ref m_leftTooth, .ref m_leftX, .int i_wear, .int i_cuts, .ref m_kept, .ref m_keptWear, .int i_deep, .ref m_now, .ref m_passed, .int i_x, .int i_v, .int i_hasPassed, .ref m_planTime, .ref m_planMany, .ref m_planned, .ref m_isQuiet, .int i_plans, .int i_hasPlan, .ref m_keptTeeth, .int i_jobs, .int i_orderBest, .ref m_jobRing, .ref m_jobSpeed, .ref m_jobFeed, .ref m_jobTurns, .ref m_orderRow, .ref m_bestRow, .int i_hasOrder, .ref m_orderTold, .int i_offers, .int i_heards, .int i_rights, .int i_telling, .ref m_offerRing, .ref m_offerSpeed, .ref m_offerFeed, .ref m_offerTurns, .ref m_heardOffer, .ref m_heardVerdict, .ref m_heardAt, .ref m_rightOf, .ref m_rightVerdict, .ref m_rightAt, .ref m_verdictOf, .ref m_sound, .ref m_readSound, .int i_sounds])), (m_rule, .inl (cI, 12, .inl gz_untold)), (m_sway, .inl (cI, 6, .inl (upd (fun _ => 0) 0 0))), (m_isQuiet, .inl (cZ, 210, .inl qQ)), (m_planTime, .inl (cI, 401, .inl hT)), (m_planMany, .inl (cI, 401, .inl hM))]) F [] [0, 1, 2, 3, 4, 5] [] rfl rfl (by decide) rfl (by decide) (by decide) rfl (fun sz => K_X13_pairOf l D (nI (sq + 1)) (nI (fq + 1))  sz) (va_cwS 2 hts gX13_goesBy_X13_pairOf rfl rfl rfl (by decide +kernel) ⟨Nat.le_of_ble_eq_true rfl, Nat.le_of_ble_eq_true rfl⟩) rfl (Nat.le_of_ble_eq_true rfl) ⟨Nat.le_of_ble_eq_true rfl, Nat.le_of_ble_eq_true rfl⟩ dX13_goesBy_11 (fun r_1 _ hw_2 => ?_)
    have hw_2 : r_1 = ((21 * (nI (sq + 1))) + (nI (fq + 1))) := hw_2
    have e_r_1 := hw_2
    show gG p l e (gR 2 0 0 63) s m args below meth c D A 7 Q 0 0 [(m0, .inr (12, [.ref m_stop, .ref m_tape, .int i_taped, .int i_length, .int i_from, .int i_behind, .int i_hand, .int i_value, .int i_fault, .int i_faultAt, .ref m_rule, .ref m_readRule, .ref m_teeth, .ref m_readTeeth, .ref m_sway, .ref m_readSway, .ref m_isTold, .ref m_markKind, .ref m_markValue, .ref m_marks, .int i_sum, .int i_parts, .ref m_pile, .ref m_height, .ref m_leftPass, .ref m_leftTurn, .ref m_leftTooth, .ref m_leftX, .int i_wear, .int i_cuts, .ref m_kept, .ref m_keptWear, .int i_deep, .ref m_now, .ref m_passed, .int i_x, .int i_v, .int i_hasPassed, .ref m_planTime, .ref m_planMany, .ref m_planned, .ref m_isQuiet, .int i_plans, .int i_hasPlan, .ref m_keptTeeth, .int i_jobs, .int i_orderBest, .ref m_jobRing, .ref m_jobSpeed, .ref m_jobFeed, .ref m_jobTurns, .ref m_orderRow, .ref m_bestRow, .int i_hasOrder, .ref m_orderTold, .int i_offers, .int i_heards, .int i_rights, .int i_telling, .ref m_offerRing, .ref m_offerSpeed, .ref m_offerFeed, .ref m_offerTurns, .ref m_heardOffer, .ref m_heardVerdict, .ref m_heardAt, .ref m_rightOf, .ref m_rightVerdict, .ref m_rightAt, .ref m_verdictOf, .ref m_sound, .ref m_readSound, .int i_sounds])), (m_rule, .inl (cI, 12, .inl gz_untold)), (m_sway, .inl (cI, 6, .inl (upd (fun _ => 0) 0 0))), (m_isQuiet, .inl (cZ, 210, .inl qQ)), (m_planTime, .inl (cI, 401, .inl hT)), (m_planMany, .inl (cI, 401, .inl hM))] [(cI, .int), (cZ, .boolean)] [(0, .ref m0), (1, .int (nI w)), (2, .int (nI (sq + 1))), (3, .int (nI (fq + 1))), (4, .int tm), (5, .int mn)] 14 [.int r_1, .ref m_isQuiet]
    refine g_fold ((21 * (nI (sq + 1))) + (nI (fq + 1))) e_r_1 ?_
    refine g_fold (nI (21 * (sq + 1) + (fq + 1))) (by rw [show (21 : Int32) = nI 21 from rfl, pk_mul, nI_add]) ?_
    refine g_zald F 3 1 rfl rfl (vp_in_nI (by omega) (by decide)) dX13_goesBy_14 ?_
    refine g_fold (qQ (21 * (sq + 1) + (fq + 1))) (by rw [nI_clamp (by omega)]) ?_
    refine g_if_eq F 32 dX13_goesBy_15 (by decide) (fun c_15 => ?_) (fun c_15 => ?_)
    · refine g_iconst F 0 dX13_goesBy_32 (by decide) ?_
      exact g_zret F hA hQ hr rfl () (gb_f (fun h9 => h9.1.2 c_15)) [0, 1, 2, 3, 4, 5] [0, 1] rfl (by decide) rfl rfl dX13_goesBy_33
    · refine g_aload_n F 0 dX13_goesBy_18 rfl rfl ?_
      refine g_get (C := RX13) (T := TX13) (N := 73) (v := .ref m_planTime) F i_X13 0 rfl rfl 38 (by decide) w_1 rfl rfl dX13_goesBy_19 ?_
      refine g_iload_n F 1 dX13_goesBy_22 rfl rfl ?_
      refine g_iload_n F 3 dX13_goesBy_23 rfl rfl ?_
      refine g_isub F dX13_goesBy_24 ?_
      refine g_fold (nI (w - (fq + 1))) (pk_sub hwf) ?_
      refine g_iald F 4 0 rfl rfl (vp_in_nI (by omega) (by decide)) dX13_goesBy_25 ?_
      refine g_fold (hT (w - (fq + 1))) (by rw [nI_clamp (by omega)]) ?_
      refine g_fold (sp_D (w - (fq + 1))) ((hd9 _ (by omega)).1) ?_
      refine g_ldcw F w_2 dX13_goesBy_26 ?_
      refine g_icmp_lt F 34 dX13_goesBy_29 (by decide) (fun c_29 => ?_) (fun h9 => absurd (sp_D_never (by omega)) h9) 
      refine g_aload_n F 0 dX13_goesBy_34 rfl rfl ?_
      refine g_iload_n F 2 dX13_goesBy_35 rfl rfl ?_
      refine g_callVi (k := 0) (n := 0) (b := m0) (As := [.int (nI (sq + 1))]) (st := []) (wc := [(m0, .inr (12, [.ref m_stop, .ref m_tape, .int i_taped, .int i_length, .int i_from, .int i_behind, .int i_hand, .int i_value, .int i_fault, .int i_faultAt, .ref m_rule, .ref m_readRule, .ref m_teeth, .ref m_readTeeth, .ref m_sway, .ref m_readSway, .ref m_isTold, .ref m_markKind, .ref m_markValue, .ref m_marks, .int i_sum, .int i_parts, .ref m_pile, .ref m_height, .ref m_leftPass, .ref m_leftTurn, .ref m_leftTooth, .ref m_leftX, .int i_wear, .int i_cuts, .ref m_kept, .ref m_keptWear, .int i_deep, .ref m_now, .ref m_passed, .int i_x, .int i_v, .int i_hasPassed, .ref m_planTime, .ref m_planMany, .ref m_planned, .ref m_isQuiet, .int i_plans, .int i_hasPlan, .ref m_keptTeeth, .int i_jobs, .int i_orderBest, .ref m_jobRing, .ref m_jobSpeed, .ref m_jobFeed, .ref m_jobTurns, .ref m_orderRow, .ref m_bestRow, .int i_hasOrder, .ref m_orderTold, .int i_offers, .int i_heards, .int i_rights, .int i_telling, .ref m_offerRing, .ref m_offerSpeed, .ref m_offerFeed, .ref m_offerTurns, .ref m_heardOffer, .ref m_heardVerdict, .ref m_heardAt, .ref m_rightOf, .ref m_rightVerdict, .ref m_rightAt, .ref m_verdictOf, .ref m_sound, .ref m_readSound, .int i_sounds])), (m_rule, .inl (cI, 12, .inl gz_untold)), (m_sway, .inl (cI, 6, .inl (upd (fun _ => 0) 0 0)))]) (wr := [(m_isQuiet, .inl (cZ, 210, .inl qQ)), (m_planTime, .inl (cI, 401, .inl hT)), (m_planMany, .inl (cI, 401, .inl hM))]) F [0, 1, 2] [3, 4, 5] [0] rfl rfl (by decide) rfl (by decide) (by decide) rfl (fun sz => K_X13_timeOf l D m0 m_stop m_tape i_taped i_length i_from i_behind i_hand i_value i_fault i_faultAt m_rule m_readRule m_teeth m_readTeeth m_sway m_readSway m_isTold m_markKind m_markValue m_marks i_sum i_parts m_pile m_height m_leftPass m_leftTurn m_leftTooth m_leftX i_wear i_cuts m_kept m_keptWear i_deep m_now m_passed i_x i_v i_hasPassed m_planTime m_planMany m_planned m_isQuiet i_plans i_hasPlan m_keptTeeth i_jobs i_orderBest m_jobRing m_jobSpeed m_jobFeed m_jobTurns m_orderRow m_bestRow i_hasOrder m_orderTold i_offers i_heards i_rights i_telling m_offerRing m_offerSpeed m_offerFeed m_offerTurns m_heardOffer m_heardVerdict m_heardAt m_rightOf m_rightVerdict m_rightAt m_verdictOf m_sound m_readSound i_sounds cI (nI (sq + 1))  sz) (cwV 1 hts gX13_goesBy_X13_timeOf rfl rfl rfl (by decide +kernel) ⟨Nat.le_of_ble_eq_true rfl, Nat.le_of_ble_eq_true rfl⟩) rfl 0 rfl rfl (Nat.le_of_ble_eq_true rfl) ⟨Nat.le_of_ble_eq_true rfl, Nat.le_of_ble_eq_true rfl⟩ dX13_goesBy_36 (fun r_6 _ hw_7 => ?_)
      have hw_7 : r_6 = (32 * (nI (sq + 1))) := hw_7
      have e_r_6 := hw_7
      show gG p l e (gR 2 0 0 63) s m args below meth c D A 7 Q 0 0 [(m_isQuiet, .inl (cZ, 210, .inl qQ)), (m_planTime, .inl (cI, 401, .inl hT)), (m_planMany, .inl (cI, 401, .inl hM)), (m0, .inr (12, [.ref m_stop, .ref m_tape, .int i_taped, .int i_length, .int i_from, .int i_behind, .int i_hand, .int i_value, .int i_fault, .int i_faultAt, .ref m_rule, .ref m_readRule, .ref m_teeth, .ref m_readTeeth, .ref m_sway, .ref m_readSway, .ref m_isTold, .ref m_markKind, .ref m_markValue, .ref m_marks, .int i_sum, .int i_parts, .ref m_pile, .ref m_height, .ref m_leftPass, .ref m_leftTurn, .ref m_leftTooth, .ref m_leftX, .int i_wear, .int i_cuts, .ref m_kept, .ref m_keptWear, .int i_deep, .ref m_now, .ref m_passed, .int i_x, .int i_v, .int i_hasPassed, .ref m_planTime, .ref m_planMany, .ref m_planned, .ref m_isQuiet, .int i_plans, .int i_hasPlan, .ref m_keptTeeth, .int i_jobs, .int i_orderBest, .ref m_jobRing, .ref m_jobSpeed, .ref m_jobFeed, .ref m_jobTurns, .ref m_orderRow, .ref m_bestRow, .int i_hasOrder, .ref m_orderTold, .int i_offers, .int i_heards, .int i_rights, .int i_telling, .ref m_offerRing, .ref m_offerSpeed, .ref m_offerFeed, .ref m_offerTurns, .ref m_heardOffer, .ref m_heardVerdict, .ref m_heardAt, .ref m_rightOf, .ref m_rightVerdict, .ref m_rightAt, .ref m_verdictOf, .ref m_sound, .ref m_readSound, .int i_sounds])), (m_rule, .inl (cI, 12, .inl gz_untold)), (m_sway, .inl (cI, 6, .inl (upd (fun _ => 0) 0 0)))] [(cI, .int), (cZ, .boolean)] [(0, .ref m0), (1, .int (nI w)), (2, .int (nI (sq + 1))), (3, .int (nI (fq + 1))), (4, .int tm), (5, .int mn)] 39 [.int r_6]
      refine g_fold (32 * (nI (sq + 1))) e_r_6 ?_
      refine g_aload_n F 0 dX13_goesBy_39 rfl rfl ?_
      refine g_get (C := RX13) (T := TX13) (N := 73) (v := .ref m_planTime) F i_X13 3 rfl rfl 38 (by decide) w_1 rfl rfl dX13_goesBy_40 ?_
      refine g_iload_n F 1 dX13_goesBy_43 rfl rfl ?_
      refine g_iload_n F 3 dX13_goesBy_44 rfl rfl ?_
      refine g_isub F dX13_goesBy_45 ?_
      refine g_fold (nI (w - (fq + 1))) (pk_sub hwf) ?_
      refine g_iald F 1 0 rfl rfl (vp_in_nI (by omega) (by decide)) dX13_goesBy_46 ?_
      refine g_fold (hT (w - (fq + 1))) (by rw [nI_clamp (by omega)]) ?_
      refine g_fold (sp_D (w - (fq + 1))) ((hd9 _ (by omega)).1) ?_
      refine g_iadd F dX13_goesBy_47 ?_
      refine g_istore F [(6, .int ((32 * (nI (sq + 1))) + (sp_D (w - (fq + 1))))), (0, .ref m0), (1, .int (nI w)), (2, .int (nI (sq + 1))), (3, .int (nI (fq + 1))), (4, .int tm), (5, .int mn)] dX13_goesBy_48 (by decide) rfl ?_
      refine g_iload F 0 dX13_goesBy_50 rfl ?_
      refine g_iload F 5 dX13_goesBy_52 rfl ?_
      refine g_icmp_lt F 79 dX13_goesBy_54 (by decide) (fun c_54 => ?_) (fun c_54 => ?_)
      · refine g_iconst F 1 dX13_goesBy_79 (by decide) ?_
        refine g_goto F 84 dX13_goesBy_80 (by decide) ?_
        exact g_zret F hA hQ hr rfl () (gb_t ⟨⟨hwf, c_15⟩, Or.inl c_54⟩) [3, 4, 5, 0, 1, 2] [0, 1] rfl (by decide) rfl rfl dX13_goesBy_84
      · refine g_iload F 0 dX13_goesBy_57 rfl ?_
        refine g_iload F 5 dX13_goesBy_59 rfl ?_
        refine g_icmp_ne F 83 dX13_goesBy_61 (by decide) (fun c_61 => ?_) (fun c_61 => ?_)
        · refine g_iconst F 0 dX13_goesBy_83 (by decide) ?_
          exact g_zret F hA hQ hr rfl () (gb_f (fun h9 => h9.2.elim c_54 (fun h8 => c_61 h8.1))) [3, 4, 5, 0, 1, 2] [0, 1] rfl (by decide) rfl rfl dX13_goesBy_84
        · refine g_iconst F 1 dX13_goesBy_64 (by decide) ?_
          refine g_aload_n F 1 dX13_goesBy_65 rfl rfl ?_
          refine g_get (C := RX13) (T := TX13) (N := 73) (v := .ref m_planMany) F i_X13 3 rfl rfl 39 (by decide) w_3 rfl rfl dX13_goesBy_66 ?_
          refine g_iload_n F 2 dX13_goesBy_69 rfl rfl ?_
          refine g_iload_n F 4 dX13_goesBy_70 rfl rfl ?_
          refine g_isub F dX13_goesBy_71 ?_
          refine g_fold (nI (w - (fq + 1))) (pk_sub hwf) ?_
          refine g_iald F 2 0 rfl rfl (vp_in_nI (by omega) (by decide)) dX13_goesBy_72 ?_
          refine g_fold (hM (w - (fq + 1))) (by rw [nI_clamp (by omega)]) ?_
          refine g_fold (sp_C (w - (fq + 1))) ((hd9 _ (by omega)).2) ?_
          refine g_iadd F dX13_goesBy_73 ?_
          refine g_iload F 6 dX13_goesBy_74 rfl ?_
          refine g_icmp_ge F 83 dX13_goesBy_76 (by decide) (fun c_76 => ?_) (fun c_76 => ?_)
          · refine g_iconst F 0 dX13_goesBy_83 (by decide) ?_
            exact g_zret F hA hQ hr rfl () (gb_f (fun h9 => h9.2.elim c_54 (fun h8 => absurd h8.2 (Int32.not_lt.mpr c_76)))) [3, 4, 5, 0, 1, 2] [0, 1] rfl (by decide) rfl rfl dX13_goesBy_84
          · refine g_iconst F 1 dX13_goesBy_79 (by decide) ?_
            refine g_goto F 84 dX13_goesBy_80 (by decide) ?_
            exact g_zret F hA hQ hr rfl () (gb_t ⟨⟨hwf, c_15⟩, Or.inr ⟨c_61, Int32.not_le.mp c_76⟩⟩) [3, 4, 5, 0, 1, 2] [0, 1] rfl (by decide) rfl rfl dX13_goesBy_84

theorem dX13_isOn_0 : decode cX13_isOn 0 = .ok (.iload_n 2, 1) := by decide +kernel
theorem dX13_isOn_1 : decode cX13_isOn 1 = .ok (.invokestatic 475, 3) := by decide +kernel
theorem dX13_isOn_4 : decode cX13_isOn 4 = .ok (.istore_n 3, 1) := by decide +kernel
theorem dX13_isOn_5 : decode cX13_isOn 5 = .ok (.iload_n 2, 1) := by decide +kernel
theorem dX13_isOn_6 : decode cX13_isOn 6 = .ok (.invokestatic 481, 3) := by decide +kernel
theorem dX13_isOn_9 : decode cX13_isOn 9 = .ok (.istore 4, 2) := by decide +kernel
theorem dX13_isOn_11 : decode cX13_isOn 11 = .ok (.iload_n 3, 1) := by decide +kernel
theorem dX13_isOn_12 : decode cX13_isOn 12 = .ok (.iload_n 1, 1) := by decide +kernel
theorem dX13_isOn_13 : decode cX13_isOn 13 = .ok (.if_icmp .gt 31, 3) := by decide +kernel
theorem dX13_isOn_16 : decode cX13_isOn 16 = .ok (.aload_n 0, 1) := by decide +kernel
theorem dX13_isOn_17 : decode cX13_isOn 17 = .ok (.getfield 250, 3) := by decide +kernel
theorem dX13_isOn_20 : decode cX13_isOn 20 = .ok (.iload 4, 2) := by decide +kernel
theorem dX13_isOn_22 : decode cX13_isOn 22 = .ok (.iload_n 3, 1) := by decide +kernel
theorem dX13_isOn_23 : decode cX13_isOn 23 = .ok (.invokestatic 460, 3) := by decide +kernel
theorem dX13_isOn_26 : decode cX13_isOn 26 = .ok (.baload, 1) := by decide +kernel
theorem dX13_isOn_27 : decode cX13_isOn 27 = .ok (.ifCond .eq 17, 3) := by decide +kernel
theorem dX13_isOn_30 : decode cX13_isOn 30 = .ok (.aload_n 0, 1) := by decide +kernel
theorem dX13_isOn_31 : decode cX13_isOn 31 = .ok (.getfield 241, 3) := by decide +kernel
theorem dX13_isOn_34 : decode cX13_isOn 34 = .ok (.iload_n 1, 1) := by decide +kernel
theorem dX13_isOn_35 : decode cX13_isOn 35 = .ok (.iload_n 3, 1) := by decide +kernel
theorem dX13_isOn_36 : decode cX13_isOn 36 = .ok (.isub, 1) := by decide +kernel
theorem dX13_isOn_37 : decode cX13_isOn 37 = .ok (.iaload, 1) := by decide +kernel
theorem dX13_isOn_38 : decode cX13_isOn 38 = .ok (.ldc_w 391, 3) := by decide +kernel
theorem dX13_isOn_41 : decode cX13_isOn 41 = .ok (.if_icmp .lt 5, 3) := by decide +kernel
theorem dX13_isOn_44 : decode cX13_isOn 44 = .ok (.iconst 0, 1) := by decide +kernel
theorem dX13_isOn_45 : decode cX13_isOn 45 = .ok (.ireturn, 1) := by decide +kernel
theorem dX13_isOn_46 : decode cX13_isOn 46 = .ok (.aload_n 0, 1) := by decide +kernel
theorem dX13_isOn_47 : decode cX13_isOn 47 = .ok (.iload 4, 2) := by decide +kernel
theorem dX13_isOn_49 : decode cX13_isOn 49 = .ok (.invokevirtual 457, 3) := by decide +kernel
theorem dX13_isOn_52 : decode cX13_isOn 52 = .ok (.aload_n 0, 1) := by decide +kernel
theorem dX13_isOn_53 : decode cX13_isOn 53 = .ok (.getfield 241, 3) := by decide +kernel
theorem dX13_isOn_56 : decode cX13_isOn 56 = .ok (.iload_n 1, 1) := by decide +kernel
theorem dX13_isOn_57 : decode cX13_isOn 57 = .ok (.iload_n 3, 1) := by decide +kernel
theorem dX13_isOn_58 : decode cX13_isOn 58 = .ok (.isub, 1) := by decide +kernel
theorem dX13_isOn_59 : decode cX13_isOn 59 = .ok (.iaload, 1) := by decide +kernel
theorem dX13_isOn_60 : decode cX13_isOn 60 = .ok (.iadd, 1) := by decide +kernel
theorem dX13_isOn_61 : decode cX13_isOn 61 = .ok (.aload_n 0, 1) := by decide +kernel
theorem dX13_isOn_62 : decode cX13_isOn 62 = .ok (.getfield 241, 3) := by decide +kernel
theorem dX13_isOn_65 : decode cX13_isOn 65 = .ok (.iload_n 1, 1) := by decide +kernel
theorem dX13_isOn_66 : decode cX13_isOn 66 = .ok (.iaload, 1) := by decide +kernel
theorem dX13_isOn_67 : decode cX13_isOn 67 = .ok (.if_icmp .ne 26, 3) := by decide +kernel
theorem dX13_isOn_70 : decode cX13_isOn 70 = .ok (.iconst 1, 1) := by decide +kernel
theorem dX13_isOn_71 : decode cX13_isOn 71 = .ok (.aload_n 0, 1) := by decide +kernel
theorem dX13_isOn_72 : decode cX13_isOn 72 = .ok (.getfield 244, 3) := by decide +kernel
theorem dX13_isOn_75 : decode cX13_isOn 75 = .ok (.iload_n 1, 1) := by decide +kernel
theorem dX13_isOn_76 : decode cX13_isOn 76 = .ok (.iload_n 3, 1) := by decide +kernel
theorem dX13_isOn_77 : decode cX13_isOn 77 = .ok (.isub, 1) := by decide +kernel
theorem dX13_isOn_78 : decode cX13_isOn 78 = .ok (.iaload, 1) := by decide +kernel
theorem dX13_isOn_79 : decode cX13_isOn 79 = .ok (.iadd, 1) := by decide +kernel
theorem dX13_isOn_80 : decode cX13_isOn 80 = .ok (.aload_n 0, 1) := by decide +kernel
theorem dX13_isOn_81 : decode cX13_isOn 81 = .ok (.getfield 244, 3) := by decide +kernel
theorem dX13_isOn_84 : decode cX13_isOn 84 = .ok (.iload_n 1, 1) := by decide +kernel
theorem dX13_isOn_85 : decode cX13_isOn 85 = .ok (.iaload, 1) := by decide +kernel
theorem dX13_isOn_86 : decode cX13_isOn 86 = .ok (.if_icmp .ne 7, 3) := by decide +kernel
theorem dX13_isOn_89 : decode cX13_isOn 89 = .ok (.iconst 1, 1) := by decide +kernel
theorem dX13_isOn_90 : decode cX13_isOn 90 = .ok (.goto 4, 3) := by decide +kernel
theorem dX13_isOn_93 : decode cX13_isOn 93 = .ok (.iconst 0, 1) := by decide +kernel
theorem dX13_isOn_94 : decode cX13_isOn 94 = .ok (.ireturn, 1) := by decide +kernel
set_option maxRecDepth 20000 in
theorem ggX13_isOn_X13_feedOf : GoodIn wsX13_isOn wsX13_feedOf := goodIn_r _ [8] rfl (by decide +kernel)
set_option maxRecDepth 20000 in
theorem gX13_isOn_X13_feedOf : GoodIn wsX13_isOn (va_wsS RX13 475 yX13_feedOf wsX13_feedOf) := goodIn_app (goodIn_of _ (by decide +kernel)) ggX13_isOn_X13_feedOf
set_option maxRecDepth 20000 in
theorem ggX13_isOn_X13_pairOf : GoodIn wsX13_isOn wsX13_pairOf := goodIn_r _ [14] rfl (by decide +kernel)
set_option maxRecDepth 20000 in
theorem gX13_isOn_X13_pairOf : GoodIn wsX13_isOn (va_wsS RX13 460 yX13_pairOf wsX13_pairOf) := goodIn_app (goodIn_of _ (by decide +kernel)) ggX13_isOn_X13_pairOf
set_option maxRecDepth 20000 in
theorem ggX13_isOn_X13_speedOf : GoodIn wsX13_isOn wsX13_speedOf := goodIn_r _ [11] rfl (by decide +kernel)
set_option maxRecDepth 20000 in
theorem gX13_isOn_X13_speedOf : GoodIn wsX13_isOn (va_wsS RX13 481 yX13_speedOf wsX13_speedOf) := goodIn_app (goodIn_of _ (by decide +kernel)) ggX13_isOn_X13_speedOf
set_option maxRecDepth 20000 in
theorem ggX13_isOn_X13_timeOf : GoodIn wsX13_isOn wsX13_timeOf := goodIn_r _ [18, 19, 20, 21, 22, 23, 24, 25, 26, 27, 28, 29, 30, 31, 32, 33, 34, 35, 36, 37, 38, 39, 40, 41, 42, 43, 44, 45, 46, 47, 48, 49, 50, 51, 52, 53, 54, 55, 56, 57, 58, 59, 60, 61, 62, 63, 64, 65, 66, 67, 68, 69, 70, 71, 72, 73, 74, 75, 76, 77, 78, 79, 80, 81, 82, 83, 84, 85, 86, 87, 88, 89, 90, 91, 92, 93] rfl (by decide +kernel)
set_option maxRecDepth 20000 in
theorem gX13_isOn_X13_timeOf : GoodIn wsX13_isOn (wsV RX13 457 RX13 yX13_timeOf wsX13_timeOf) := goodIn_app (goodIn_of _ (by decide +kernel)) ggX13_isOn_X13_timeOf
set_option maxHeartbeats 4000000 in
set_option maxRecDepth 100000 in
theorem K_X13_isOn (l : Launch) (D : va_G) (m0 : Nat) (m_stop : Nat) (m_tape : Nat) (i_taped : Int32) (i_length : Int32) (i_from : Int32) (i_behind : Int32) (i_hand : Int32) (i_value : Int32) (i_fault : Int32) (i_faultAt : Int32) (m_rule : Nat) (m_readRule : Nat) (m_teeth : Nat) (m_readTeeth : Nat) (m_sway : Nat) (m_readSway : Nat) (m_isTold : Nat) (m_markKind : Nat) (m_markValue : Nat) (m_marks : Nat) (i_sum : Int32) (i_parts : Int32) (m_pile : Nat) (m_height : Nat) (m_leftPass : Nat) (m_leftTurn : Nat) (m_leftTooth : Nat) (m_leftX : Nat) (i_wear : Int32) (i_cuts : Int32) (m_kept : Nat) (m_keptWear : Nat) (i_deep : Int32) (m_now : Nat) (m_passed : Nat) (i_x : Int32) (i_v : Int32) (i_hasPassed : Int32) (m_planTime : Nat) (m_planMany : Nat) (m_planned : Nat) (m_isQuiet : Nat) (i_plans : Int32) (i_hasPlan : Int32) (m_keptTeeth : Nat) (i_jobs : Int32) (i_orderBest : Int32) (m_jobRing : Nat) (m_jobSpeed : Nat) (m_jobFeed : Nat) (m_jobTurns : Nat) (m_orderRow : Nat) (m_bestRow : Nat) (i_hasOrder : Int32) (m_orderTold : Nat) (i_offers : Int32) (i_heards : Int32) (i_rights : Int32) (i_telling : Int32) (m_offerRing : Nat) (m_offerSpeed : Nat) (m_offerFeed : Nat) (m_offerTurns : Nat) (m_heardOffer : Nat) (m_heardVerdict : Nat) (m_heardAt : Nat) (m_rightOf : Nat) (m_rightVerdict : Nat) (m_rightAt : Nat) (m_verdictOf : Nat) (m_sound : Nat) (m_readSound : Nat) (i_sounds : Int32) (cI : ClassId) (cZ : ClassId) (qQ : Nat → Int32) (hT : Nat → Int32) (hM : Nat → Int32) (u : Nat) (mk : Nat) (hu : u ≤ 100) (hmk : mk < 20) (hd9 : ∀ j, j ≤ u → hT j = sp_D j ∧ hM j = sp_C j) (sz : Nat) : Ki l yX13_isOn wsX13_isOn 2 63 0 0 D [.ref m0, .int (nI u), .int (nI (21 + mk))] [(m0, .inr (12, [.ref m_stop, .ref m_tape, .int i_taped, .int i_length, .int i_from, .int i_behind, .int i_hand, .int i_value, .int i_fault, .int i_faultAt, .ref m_rule, .ref m_readRule, .ref m_teeth, .ref m_readTeeth, .ref m_sway, .ref m_readSway, .ref m_isTold, .ref m_markKind, .ref m_markValue, .ref m_marks, .int i_sum, .int i_parts, .ref m_pile, .ref m_height, .ref m_leftPass, .ref m_leftTurn, .ref m_leftTooth, .ref m_leftX, .int i_wear, .int i_cuts, .ref m_kept, .ref m_keptWear, .int i_deep, .ref m_now, .ref m_passed, .int i_x, .int i_v, .int i_hasPassed, .ref m_planTime, .ref m_planMany, .ref m_planned, .ref m_isQuiet, .int i_plans, .int i_hasPlan, .ref m_keptTeeth, .int i_jobs, .int i_orderBest, .ref m_jobRing, .ref m_jobSpeed, .ref m_jobFeed, .ref m_jobTurns, .ref m_orderRow, .ref m_bestRow, .int i_hasOrder, .ref m_orderTold, .int i_offers, .int i_heards, .int i_rights, .int i_telling, .ref m_offerRing, .ref m_offerSpeed, .ref m_offerFeed, .ref m_offerTurns, .ref m_heardOffer, .ref m_heardVerdict, .ref m_heardAt, .ref m_rightOf, .ref m_rightVerdict, .ref m_rightAt, .ref m_verdictOf, .ref m_sound, .ref m_readSound, .int i_sounds])), (m_rule, .inl (cI, 12, .inl gz_untold)), (m_sway, .inl (cI, 6, .inl (upd (fun _ => 0) 0 0))), (m_isQuiet, .inl (cZ, 210, .inl qQ)), (m_planTime, .inl (cI, 401, .inl hT)), (m_planMany, .inl (cI, 401, .inl hM))] [(cI, .int), (cZ, .boolean)] sz (fun (r : Int32) (_ : Unit) => r = (if sp_on u mk (qQ (21 + (mk + 1))) then 1 else 0)) (fun (_ : Unit) => [(m0, .inr (12, [.ref m_stop, .ref m_tape, .int i_taped, .int i_length, .int i_from, .int i_behind, .int i_hand, .int i_value, .int i_fault, .int i_faultAt, .ref m_rule, .ref m_readRule, .ref m_teeth, .ref m_readTeeth, .ref m_sway, .ref m_readSway, .ref m_isTold, .ref m_markKind, .ref m_markValue, .ref m_marks, .int i_sum, .int i_parts, .ref m_pile, .ref m_height, .ref m_leftPass, .ref m_leftTurn, .ref m_leftTooth, .ref m_leftX, .int i_wear, .int i_cuts, .ref m_kept, .ref m_keptWear, .int i_deep, .ref m_now, .ref m_passed, .int i_x, .int i_v, .int i_hasPassed, .ref m_planTime, .ref m_planMany, .ref m_planned, .ref m_isQuiet, .int i_plans, .int i_hasPlan, .ref m_keptTeeth, .int i_jobs, .int i_orderBest, .ref m_jobRing, .ref m_jobSpeed, .ref m_jobFeed, .ref m_jobTurns, .ref m_orderRow, .ref m_bestRow, .int i_hasOrder, .ref m_orderTold, .int i_offers, .int i_heards, .int i_rights, .int i_telling, .ref m_offerRing, .ref m_offerSpeed, .ref m_offerFeed, .ref m_offerTurns, .ref m_heardOffer, .ref m_heardVerdict, .ref m_heardAt, .ref m_rightOf, .ref m_rightVerdict, .ref m_rightAt, .ref m_verdictOf, .ref m_sound, .ref m_readSound, .int i_sounds])), (m_rule, .inl (cI, 12, .inl gz_untold)), (m_sway, .inl (cI, 6, .inl (upd (fun _ => 0) 0 0))), (m_isQuiet, .inl (cZ, 210, .inl qQ)), (m_planTime, .inl (cI, 401, .inl hT)), (m_planMany, .inl (cI, 401, .inl hM))]) (fun (_ : Unit) => [(cI, .int), (cZ, .boolean)]) := by
  unfold Ki
  refine g_ofW (cc := cX13_isOn) (lv := [(0, .ref m0), (1, .int (nI u)), (2, .int (nI (21 + mk)))]) (by decide) rfl (Nat.le_of_ble_eq_true rfl) rfl ?_
  intro p e s m args below meth c A Q hA hQ F hr hnm
  have hts := F.2.2.2.2.1
  have w_0 : (Cond.fieldLink RX13 250 "QuietCutModel" "isQuiet" "[Z").before args s = true := hts _ (List.mem_of_getElem? (i := 1) rfl)
  have i_X13 : ∀ w ∈ u_ws RX13 TX13 73, w ∈ wsX13_isOn := fun _ h => List.mem_cons_of_mem _ (List.mem_append_right _ h)
  have w_1 : (Cond.fieldLink RX13 241 "QuietCutModel" "planTime" "[I").before args s = true := hts _ (List.mem_of_getElem? (i := 2) rfl)
  have w_2 : (Cond.constant RX13 391 (1000000000)).before args s = true := hts _ (List.mem_of_getElem? (i := 3) rfl)
  have w_3 : (Cond.fieldLink RX13 244 "QuietCutModel" "planMany" "[I").before args s = true := hts _ (List.mem_of_getElem? (i := 4) rfl)
  refine g_iload_n F 2 dX13_isOn_0 rfl rfl ?_
  refine g_callSi (k := 0) (n := 0) (As := [.int (nI (21 + mk))]) (st := []) (wc := []) (wr := [(m0, .inr (12, [.ref m_stop, .ref m_tape, .int i_taped, .int i_length, .int i_from, .int i_behind, .int i_hand, .int i_value, .int i_fault, .int i_faultAt, .ref m_rule, .ref m_readRule, .ref m_teeth, .ref m_readTeeth, .ref m_sway, .ref m_readSway, .ref m_isTold, .ref m_markKind, .ref m_markValue, .ref m_marks, .int i_sum, .int i_parts, .ref m_pile, .ref m_height, .ref m_leftPass, .ref m_leftTurn, .ref m_leftTooth, .ref m_leftX, .int i_wear, .int i_cuts, .ref m_kept, .ref m_keptWear, .int i_deep, .ref m_now, .ref m_passed, .int i_x, .int i_v, .int i_hasPassed, .ref m_planTime, .ref m_planMany, .ref m_planned, .ref m_isQuiet, .int i_plans, .int i_hasPlan, .ref m_keptTeeth, .int i_jobs, .int i_orderBest, .ref m_jobRing, .ref m_jobSpeed, .ref m_jobFeed, .ref m_jobTurns, .ref m_orderRow, .ref m_bestRow, .int i_hasOrder, .ref m_orderTold, .int i_offers, .int i_heards, .int i_rights, .int i_telling, .ref m_offerRing, .ref m_offerSpeed, .ref m_offerFeed, .ref m_offerTurns, .ref m_heardOffer, .ref m_heardVerdict, .ref m_heardAt, .ref m_rightOf, .ref m_rightVerdict, .ref m_rightAt, .ref m_verdictOf, .ref m_sound, .ref m_readSound, .int i_sounds])), (m_rule, .inl (cI, 12, .inl gz_untold)), (m_sway, .inl (cI, 6, .inl (upd (fun _ => 0) 0 0))), (m_isQuiet, .inl (cZ, 210, .inl qQ)), (m_planTime, .inl (cI, 401, .inl hT)), (m_planMany, .inl (cI, 401, .inl hM))]) F [] [0, 1, 2, 3, 4, 5] [] rfl rfl (by decide) rfl (by decide) (by decide) rfl (fun sz => K_X13_feedOf l D mk (by first | assumption | decide | omega) sz) (va_cwS 1 hts gX13_isOn_X13_feedOf rfl rfl rfl (by decide +kernel) ⟨Nat.le_of_ble_eq_true rfl, Nat.le_of_ble_eq_true rfl⟩) rfl (Nat.le_of_ble_eq_true rfl) ⟨Nat.le_of_ble_eq_true rfl, Nat.le_of_ble_eq_true rfl⟩ dX13_isOn_1 (fun r_1 _ hw_2 => ?_)
  have hw_2 : r_1 = (nI (mk + 1)) := hw_2
  have e_r_1 := hw_2
  show gG p l e (gR 2 0 0 63) s m args below meth c D A 5 Q 0 0 [(m0, .inr (12, [.ref m_stop, .ref m_tape, .int i_taped, .int i_length, .int i_from, .int i_behind, .int i_hand, .int i_value, .int i_fault, .int i_faultAt, .ref m_rule, .ref m_readRule, .ref m_teeth, .ref m_readTeeth, .ref m_sway, .ref m_readSway, .ref m_isTold, .ref m_markKind, .ref m_markValue, .ref m_marks, .int i_sum, .int i_parts, .ref m_pile, .ref m_height, .ref m_leftPass, .ref m_leftTurn, .ref m_leftTooth, .ref m_leftX, .int i_wear, .int i_cuts, .ref m_kept, .ref m_keptWear, .int i_deep, .ref m_now, .ref m_passed, .int i_x, .int i_v, .int i_hasPassed, .ref m_planTime, .ref m_planMany, .ref m_planned, .ref m_isQuiet, .int i_plans, .int i_hasPlan, .ref m_keptTeeth, .int i_jobs, .int i_orderBest, .ref m_jobRing, .ref m_jobSpeed, .ref m_jobFeed, .ref m_jobTurns, .ref m_orderRow, .ref m_bestRow, .int i_hasOrder, .ref m_orderTold, .int i_offers, .int i_heards, .int i_rights, .int i_telling, .ref m_offerRing, .ref m_offerSpeed, .ref m_offerFeed, .ref m_offerTurns, .ref m_heardOffer, .ref m_heardVerdict, .ref m_heardAt, .ref m_rightOf, .ref m_rightVerdict, .ref m_rightAt, .ref m_verdictOf, .ref m_sound, .ref m_readSound, .int i_sounds])), (m_rule, .inl (cI, 12, .inl gz_untold)), (m_sway, .inl (cI, 6, .inl (upd (fun _ => 0) 0 0))), (m_isQuiet, .inl (cZ, 210, .inl qQ)), (m_planTime, .inl (cI, 401, .inl hT)), (m_planMany, .inl (cI, 401, .inl hM))] [(cI, .int), (cZ, .boolean)] [(0, .ref m0), (1, .int (nI u)), (2, .int (nI (21 + mk)))] 4 [.int r_1]
  refine g_fold (nI (mk + 1)) e_r_1 ?_
  refine g_istore_n F [(3, .int (nI (mk + 1))), (0, .ref m0), (1, .int (nI u)), (2, .int (nI (21 + mk)))] dX13_isOn_4 rfl (by decide) rfl ?_
  refine g_iload_n F 3 dX13_isOn_5 rfl rfl ?_
  refine g_callSi (k := 0) (n := 0) (As := [.int (nI (21 + mk))]) (st := []) (wc := []) (wr := [(m0, .inr (12, [.ref m_stop, .ref m_tape, .int i_taped, .int i_length, .int i_from, .int i_behind, .int i_hand, .int i_value, .int i_fault, .int i_faultAt, .ref m_rule, .ref m_readRule, .ref m_teeth, .ref m_readTeeth, .ref m_sway, .ref m_readSway, .ref m_isTold, .ref m_markKind, .ref m_markValue, .ref m_marks, .int i_sum, .int i_parts, .ref m_pile, .ref m_height, .ref m_leftPass, .ref m_leftTurn, .ref m_leftTooth, .ref m_leftX, .int i_wear, .int i_cuts, .ref m_kept, .ref m_keptWear, .int i_deep, .ref m_now, .ref m_passed, .int i_x, .int i_v, .int i_hasPassed, .ref m_planTime, .ref m_planMany, .ref m_planned, .ref m_isQuiet, .int i_plans, .int i_hasPlan, .ref m_keptTeeth, .int i_jobs, .int i_orderBest, .ref m_jobRing, .ref m_jobSpeed, .ref m_jobFeed, .ref m_jobTurns, .ref m_orderRow, .ref m_bestRow, .int i_hasOrder, .ref m_orderTold, .int i_offers, .int i_heards, .int i_rights, .int i_telling, .ref m_offerRing, .ref m_offerSpeed, .ref m_offerFeed, .ref m_offerTurns, .ref m_heardOffer, .ref m_heardVerdict, .ref m_heardAt, .ref m_rightOf, .ref m_rightVerdict, .ref m_rightAt, .ref m_verdictOf, .ref m_sound, .ref m_readSound, .int i_sounds])), (m_rule, .inl (cI, 12, .inl gz_untold)), (m_sway, .inl (cI, 6, .inl (upd (fun _ => 0) 0 0))), (m_isQuiet, .inl (cZ, 210, .inl qQ)), (m_planTime, .inl (cI, 401, .inl hT)), (m_planMany, .inl (cI, 401, .inl hM))]) F [] [0, 1, 2, 3, 4, 5] [] rfl rfl (by decide) rfl (by decide) (by decide) rfl (fun sz => K_X13_speedOf l D mk (by first | assumption | decide | omega) sz) (va_cwS 1 hts gX13_isOn_X13_speedOf rfl rfl rfl (by decide +kernel) ⟨Nat.le_of_ble_eq_true rfl, Nat.le_of_ble_eq_true rfl⟩) rfl (Nat.le_of_ble_eq_true rfl) ⟨Nat.le_of_ble_eq_true rfl, Nat.le_of_ble_eq_true rfl⟩ dX13_isOn_6 (fun r_6 _ hw_7 => ?_)
  have hw_7 : r_6 = 1 := hw_7
  have e_r_6 := hw_7
  show gG p l e (gR 2 0 0 63) s m args below meth c D A 5 Q 0 0 [(m0, .inr (12, [.ref m_stop, .ref m_tape, .int i_taped, .int i_length, .int i_from, .int i_behind, .int i_hand, .int i_value, .int i_fault, .int i_faultAt, .ref m_rule, .ref m_readRule, .ref m_teeth, .ref m_readTeeth, .ref m_sway, .ref m_readSway, .ref m_isTold, .ref m_markKind, .ref m_markValue, .ref m_marks, .int i_sum, .int i_parts, .ref m_pile, .ref m_height, .ref m_leftPass, .ref m_leftTurn, .ref m_leftTooth, .ref m_leftX, .int i_wear, .int i_cuts, .ref m_kept, .ref m_keptWear, .int i_deep, .ref m_now, .ref m_passed, .int i_x, .int i_v, .int i_hasPassed, .ref m_planTime, .ref m_planMany, .ref m_planned, .ref m_isQuiet, .int i_plans, .int i_hasPlan, .ref m_keptTeeth, .int i_jobs, .int i_orderBest, .ref m_jobRing, .ref m_jobSpeed, .ref m_jobFeed, .ref m_jobTurns, .ref m_orderRow, .ref m_bestRow, .int i_hasOrder, .ref m_orderTold, .int i_offers, .int i_heards, .int i_rights, .int i_telling, .ref m_offerRing, .ref m_offerSpeed, .ref m_offerFeed, .ref m_offerTurns, .ref m_heardOffer, .ref m_heardVerdict, .ref m_heardAt, .ref m_rightOf, .ref m_rightVerdict, .ref m_rightAt, .ref m_verdictOf, .ref m_sound, .ref m_readSound, .int i_sounds])), (m_rule, .inl (cI, 12, .inl gz_untold)), (m_sway, .inl (cI, 6, .inl (upd (fun _ => 0) 0 0))), (m_isQuiet, .inl (cZ, 210, .inl qQ)), (m_planTime, .inl (cI, 401, .inl hT)), (m_planMany, .inl (cI, 401, .inl hM))] [(cI, .int), (cZ, .boolean)] [(3, .int (nI (mk + 1))), (0, .ref m0), (1, .int (nI u)), (2, .int (nI (21 + mk)))] 9 [.int r_6]
  refine g_fold 1 e_r_6 ?_
  refine g_istore F [(4, .int 1), (3, .int (nI (mk + 1))), (0, .ref m0), (1, .int (nI u)), (2, .int (nI (21 + mk)))] dX13_isOn_9 (by decide) rfl ?_
  refine g_iload_n F 1 dX13_isOn_11 rfl rfl ?_
  refine g_iload_n F 3 dX13_isOn_12 rfl rfl ?_
  refine g_icmp_gt F 44 dX13_isOn_13 (by decide) (fun c_13 => ?_) (fun c_13 => ?_)
  · refine g_iconst F 0 dX13_isOn_44 (by decide) ?_
    exact g_zret F hA hQ hr rfl () (gb_f (fun h9 => absurd c_13 (nI_nlt (by omega) (by have := h9.1.1; omega)))) [0, 1, 2, 3, 4, 5] [0, 1] rfl (by decide) rfl rfl dX13_isOn_45
  · have huf : mk + 1 ≤ u := by rcases Nat.lt_or_ge u (mk + 1) with h | h; exact absurd (nI_lt h (by omega)) c_13; exact h
    refine g_aload_n F 2 dX13_isOn_16 rfl rfl ?_
    refine g_get (C := RX13) (T := TX13) (N := 73) (v := .ref m_isQuiet) F i_X13 0 rfl rfl 41 (by decide) w_0 rfl rfl dX13_isOn_17 ?_
    refine g_iload F 0 dX13_isOn_20 rfl ?_
    refine g_iload_n F 1 dX13_isOn_22 rfl rfl ?_
    refine g_callSi (k := 0) (n := 0) (As := [.int 1, .int (nI (mk + 1))]) (st := [.ref m_isQuiet]) (wc := []) (wr := [(m0, .inr (12, [.ref m_stop, .ref m_tape, .int i_taped, .int i_length, .int i_from, .int i_behind, .int i_hand, .int i_value, .int i_fault, .int i_faultAt, .ref m_rule, .ref m_readRule, .ref m_teeth, .ref m_readTeeth, .ref m_sway, .ref m_readSway, .ref m_isTold, .ref m_markKind, .ref m_markValue, .ref m_marks, .int i_sum, .int i_parts, .ref m_pile, .ref m_height, .ref m_leftPass, .ref m_leftTurn, .ref m_leftTooth, .ref m_leftX, .int i_wear, .int i_cuts, .ref m_kept, .ref m_keptWear, .int i_deep, .ref m_now, .ref m_passed, .int i_x, .int i_v, .int i_hasPassed, .ref m_planTime, .ref m_planMany, .ref m_planned, .ref m_isQuiet, .int i_plans, .int i_hasPlan, .ref m_keptTeeth, .int i_jobs, .int i_orderBest, .ref m_jobRing, .ref m_jobSpeed, .ref m_jobFeed, .ref m_jobTurns, .ref m_orderRow, .ref m_bestRow, .int i_hasOrder, .ref m_orderTold, .int i_offers, .int i_heards, .int i_rights, .int i_telling, .ref m_offerRing, .ref m_offerSpeed, .ref m_offerFeed, .ref m_offerTurns, .ref m_heardOffer, .ref m_heardVerdict, .ref m_heardAt, .ref m_rightOf, .ref m_rightVerdict, .ref m_rightAt, .ref m_verdictOf, .ref m_sound, .ref m_readSound, .int i_sounds])), (m_rule, .inl (cI, 12, .inl gz_untold)), (m_sway, .inl (cI, 6, .inl (upd (fun _ => 0) 0 0))), (m_isQuiet, .inl (cZ, 210, .inl qQ)), (m_planTime, .inl (cI, 401, .inl hT)), (m_planMany, .inl (cI, 401, .inl hM))]) F [] [0, 1, 2, 3, 4, 5] [] rfl rfl (by decide) rfl (by decide) (by decide) rfl (fun sz => K_X13_pairOf l D 1 (nI (mk + 1))  sz) (va_cwS 2 hts gX13_isOn_X13_pairOf rfl rfl rfl (by decide +kernel) ⟨Nat.le_of_ble_eq_true rfl, Nat.le_of_ble_eq_true rfl⟩) rfl (Nat.le_of_ble_eq_true rfl) ⟨Nat.le_of_ble_eq_true rfl, Nat.le_of_ble_eq_true rfl⟩ dX13_isOn_23 (fun r_11 _ hw_12 => ?_)
    have hw_12 : r_11 = ((21 * 1) + (nI (mk + 1))) := hw_12
    have e_r_11 := hw_12
    show gG p l e (gR 2 0 0 63) s m args below meth c D A 5 Q 0 0 [(m0, .inr (12, [.ref m_stop, .ref m_tape, .int i_taped, .int i_length, .int i_from, .int i_behind, .int i_hand, .int i_value, .int i_fault, .int i_faultAt, .ref m_rule, .ref m_readRule, .ref m_teeth, .ref m_readTeeth, .ref m_sway, .ref m_readSway, .ref m_isTold, .ref m_markKind, .ref m_markValue, .ref m_marks, .int i_sum, .int i_parts, .ref m_pile, .ref m_height, .ref m_leftPass, .ref m_leftTurn, .ref m_leftTooth, .ref m_leftX, .int i_wear, .int i_cuts, .ref m_kept, .ref m_keptWear, .int i_deep, .ref m_now, .ref m_passed, .int i_x, .int i_v, .int i_hasPassed, .ref m_planTime, .ref m_planMany, .ref m_planned, .ref m_isQuiet, .int i_plans, .int i_hasPlan, .ref m_keptTeeth, .int i_jobs, .int i_orderBest, .ref m_jobRing, .ref m_jobSpeed, .ref m_jobFeed, .ref m_jobTurns, .ref m_orderRow, .ref m_bestRow, .int i_hasOrder, .ref m_orderTold, .int i_offers, .int i_heards, .int i_rights, .int i_telling, .ref m_offerRing, .ref m_offerSpeed, .ref m_offerFeed, .ref m_offerTurns, .ref m_heardOffer, .ref m_heardVerdict, .ref m_heardAt, .ref m_rightOf, .ref m_rightVerdict, .ref m_rightAt, .ref m_verdictOf, .ref m_sound, .ref m_readSound, .int i_sounds])), (m_rule, .inl (cI, 12, .inl gz_untold)), (m_sway, .inl (cI, 6, .inl (upd (fun _ => 0) 0 0))), (m_isQuiet, .inl (cZ, 210, .inl qQ)), (m_planTime, .inl (cI, 401, .inl hT)), (m_planMany, .inl (cI, 401, .inl hM))] [(cI, .int), (cZ, .boolean)] [(4, .int 1), (3, .int (nI (mk + 1))), (0, .ref m0), (1, .int (nI u)), (2, .int (nI (21 + mk)))] 26 [.int r_11, .ref m_isQuiet]
    refine g_fold ((21 * 1) + (nI (mk + 1))) e_r_11 ?_
    refine g_fold (nI (21 + (mk + 1))) (by rw [show (21 * 1 : Int32) = nI 21 from rfl, nI_add]) ?_
    refine g_zald F 3 1 rfl rfl (vp_in_nI (by omega) (by decide)) dX13_isOn_26 ?_
    refine g_fold (qQ (21 + (mk + 1))) (by rw [nI_clamp (by omega)]) ?_
    refine g_if_eq F 44 dX13_isOn_27 (by decide) (fun c_27 => ?_) (fun c_27 => ?_)
    · refine g_iconst F 0 dX13_isOn_44 (by decide) ?_
      exact g_zret F hA hQ hr rfl () (gb_f (fun h9 => h9.1.2 c_27)) [0, 1, 2, 3, 4, 5] [0, 1] rfl (by decide) rfl rfl dX13_isOn_45
    · refine g_aload_n F 2 dX13_isOn_30 rfl rfl ?_
      refine g_get (C := RX13) (T := TX13) (N := 73) (v := .ref m_planTime) F i_X13 0 rfl rfl 38 (by decide) w_1 rfl rfl dX13_isOn_31 ?_
      refine g_iload_n F 3 dX13_isOn_34 rfl rfl ?_
      refine g_iload_n F 1 dX13_isOn_35 rfl rfl ?_
      refine g_isub F dX13_isOn_36 ?_
      refine g_fold (nI (u - (mk + 1))) (pk_sub huf) ?_
      refine g_iald F 4 0 rfl rfl (vp_in_nI (by omega) (by decide)) dX13_isOn_37 ?_
      refine g_fold (hT (u - (mk + 1))) (by rw [nI_clamp (by omega)]) ?_
      refine g_fold (sp_D (u - (mk + 1))) ((hd9 _ (by omega)).1) ?_
      refine g_ldcw F w_2 dX13_isOn_38 ?_
      refine g_icmp_lt F 46 dX13_isOn_41 (by decide) (fun c_41 => ?_) (fun h9 => absurd (sp_D_never (by omega)) h9) 
      refine g_aload_n F 2 dX13_isOn_46 rfl rfl ?_
      refine g_iload F 0 dX13_isOn_47 rfl ?_
      refine g_callVi (k := 0) (n := 0) (b := m0) (As := [.int 1]) (st := []) (wc := [(m0, .inr (12, [.ref m_stop, .ref m_tape, .int i_taped, .int i_length, .int i_from, .int i_behind, .int i_hand, .int i_value, .int i_fault, .int i_faultAt, .ref m_rule, .ref m_readRule, .ref m_teeth, .ref m_readTeeth, .ref m_sway, .ref m_readSway, .ref m_isTold, .ref m_markKind, .ref m_markValue, .ref m_marks, .int i_sum, .int i_parts, .ref m_pile, .ref m_height, .ref m_leftPass, .ref m_leftTurn, .ref m_leftTooth, .ref m_leftX, .int i_wear, .int i_cuts, .ref m_kept, .ref m_keptWear, .int i_deep, .ref m_now, .ref m_passed, .int i_x, .int i_v, .int i_hasPassed, .ref m_planTime, .ref m_planMany, .ref m_planned, .ref m_isQuiet, .int i_plans, .int i_hasPlan, .ref m_keptTeeth, .int i_jobs, .int i_orderBest, .ref m_jobRing, .ref m_jobSpeed, .ref m_jobFeed, .ref m_jobTurns, .ref m_orderRow, .ref m_bestRow, .int i_hasOrder, .ref m_orderTold, .int i_offers, .int i_heards, .int i_rights, .int i_telling, .ref m_offerRing, .ref m_offerSpeed, .ref m_offerFeed, .ref m_offerTurns, .ref m_heardOffer, .ref m_heardVerdict, .ref m_heardAt, .ref m_rightOf, .ref m_rightVerdict, .ref m_rightAt, .ref m_verdictOf, .ref m_sound, .ref m_readSound, .int i_sounds])), (m_rule, .inl (cI, 12, .inl gz_untold)), (m_sway, .inl (cI, 6, .inl (upd (fun _ => 0) 0 0)))]) (wr := [(m_isQuiet, .inl (cZ, 210, .inl qQ)), (m_planTime, .inl (cI, 401, .inl hT)), (m_planMany, .inl (cI, 401, .inl hM))]) F [0, 1, 2] [3, 4, 5] [0] rfl rfl (by decide) rfl (by decide) (by decide) rfl (fun sz => K_X13_timeOf l D m0 m_stop m_tape i_taped i_length i_from i_behind i_hand i_value i_fault i_faultAt m_rule m_readRule m_teeth m_readTeeth m_sway m_readSway m_isTold m_markKind m_markValue m_marks i_sum i_parts m_pile m_height m_leftPass m_leftTurn m_leftTooth m_leftX i_wear i_cuts m_kept m_keptWear i_deep m_now m_passed i_x i_v i_hasPassed m_planTime m_planMany m_planned m_isQuiet i_plans i_hasPlan m_keptTeeth i_jobs i_orderBest m_jobRing m_jobSpeed m_jobFeed m_jobTurns m_orderRow m_bestRow i_hasOrder m_orderTold i_offers i_heards i_rights i_telling m_offerRing m_offerSpeed m_offerFeed m_offerTurns m_heardOffer m_heardVerdict m_heardAt m_rightOf m_rightVerdict m_rightAt m_verdictOf m_sound m_readSound i_sounds cI 1  sz) (cwV 1 hts gX13_isOn_X13_timeOf rfl rfl rfl (by decide +kernel) ⟨Nat.le_of_ble_eq_true rfl, Nat.le_of_ble_eq_true rfl⟩) rfl 0 rfl rfl (Nat.le_of_ble_eq_true rfl) ⟨Nat.le_of_ble_eq_true rfl, Nat.le_of_ble_eq_true rfl⟩ dX13_isOn_49 (fun r_16 _ hw_17 => ?_)
      have hw_17 : r_16 = (32 * 1) := hw_17
      have e_r_16 := hw_17
      show gG p l e (gR 2 0 0 63) s m args below meth c D A 5 Q 0 0 [(m_isQuiet, .inl (cZ, 210, .inl qQ)), (m_planTime, .inl (cI, 401, .inl hT)), (m_planMany, .inl (cI, 401, .inl hM)), (m0, .inr (12, [.ref m_stop, .ref m_tape, .int i_taped, .int i_length, .int i_from, .int i_behind, .int i_hand, .int i_value, .int i_fault, .int i_faultAt, .ref m_rule, .ref m_readRule, .ref m_teeth, .ref m_readTeeth, .ref m_sway, .ref m_readSway, .ref m_isTold, .ref m_markKind, .ref m_markValue, .ref m_marks, .int i_sum, .int i_parts, .ref m_pile, .ref m_height, .ref m_leftPass, .ref m_leftTurn, .ref m_leftTooth, .ref m_leftX, .int i_wear, .int i_cuts, .ref m_kept, .ref m_keptWear, .int i_deep, .ref m_now, .ref m_passed, .int i_x, .int i_v, .int i_hasPassed, .ref m_planTime, .ref m_planMany, .ref m_planned, .ref m_isQuiet, .int i_plans, .int i_hasPlan, .ref m_keptTeeth, .int i_jobs, .int i_orderBest, .ref m_jobRing, .ref m_jobSpeed, .ref m_jobFeed, .ref m_jobTurns, .ref m_orderRow, .ref m_bestRow, .int i_hasOrder, .ref m_orderTold, .int i_offers, .int i_heards, .int i_rights, .int i_telling, .ref m_offerRing, .ref m_offerSpeed, .ref m_offerFeed, .ref m_offerTurns, .ref m_heardOffer, .ref m_heardVerdict, .ref m_heardAt, .ref m_rightOf, .ref m_rightVerdict, .ref m_rightAt, .ref m_verdictOf, .ref m_sound, .ref m_readSound, .int i_sounds])), (m_rule, .inl (cI, 12, .inl gz_untold)), (m_sway, .inl (cI, 6, .inl (upd (fun _ => 0) 0 0)))] [(cI, .int), (cZ, .boolean)] [(4, .int 1), (3, .int (nI (mk + 1))), (0, .ref m0), (1, .int (nI u)), (2, .int (nI (21 + mk)))] 52 [.int r_16]
      refine g_fold (32 * 1) e_r_16 ?_
      refine g_fold 32 (by decide) ?_
      refine g_aload_n F 2 dX13_isOn_52 rfl rfl ?_
      refine g_get (C := RX13) (T := TX13) (N := 73) (v := .ref m_planTime) F i_X13 3 rfl rfl 38 (by decide) w_1 rfl rfl dX13_isOn_53 ?_
      refine g_iload_n F 3 dX13_isOn_56 rfl rfl ?_
      refine g_iload_n F 1 dX13_isOn_57 rfl rfl ?_
      refine g_isub F dX13_isOn_58 ?_
      refine g_fold (nI (u - (mk + 1))) (pk_sub huf) ?_
      refine g_iald F 1 0 rfl rfl (vp_in_nI (by omega) (by decide)) dX13_isOn_59 ?_
      refine g_fold (hT (u - (mk + 1))) (by rw [nI_clamp (by omega)]) ?_
      refine g_fold (sp_D (u - (mk + 1))) ((hd9 _ (by omega)).1) ?_
      refine g_iadd F dX13_isOn_60 ?_
      refine g_aload_n F 2 dX13_isOn_61 rfl rfl ?_
      refine g_get (C := RX13) (T := TX13) (N := 73) (v := .ref m_planTime) F i_X13 3 rfl rfl 38 (by decide) w_1 rfl rfl dX13_isOn_62 ?_
      refine g_iload_n F 3 dX13_isOn_65 rfl rfl ?_
      refine g_iald F 1 0 rfl rfl (vp_in_nI (by omega) (by decide)) dX13_isOn_66 ?_
      refine g_fold (hT u) (by rw [nI_clamp (by omega)]) ?_
      refine g_fold (sp_D u) ((hd9 _ (Nat.le_refl _)).1) ?_
      refine g_icmp_ne F 93 dX13_isOn_67 (by decide) (fun c_67 => ?_) (fun c_67 => ?_)
      · refine g_iconst F 0 dX13_isOn_93 (by decide) ?_
        exact g_zret F hA hQ hr rfl () (gb_f (fun h9 => c_67 h9.2.1)) [3, 4, 5, 0, 1, 2] [0, 1] rfl (by decide) rfl rfl dX13_isOn_94
      · refine g_iconst F 1 dX13_isOn_70 (by decide) ?_
        refine g_aload_n F 2 dX13_isOn_71 rfl rfl ?_
        refine g_get (C := RX13) (T := TX13) (N := 73) (v := .ref m_planMany) F i_X13 3 rfl rfl 39 (by decide) w_3 rfl rfl dX13_isOn_72 ?_
        refine g_iload_n F 3 dX13_isOn_75 rfl rfl ?_
        refine g_iload_n F 1 dX13_isOn_76 rfl rfl ?_
        refine g_isub F dX13_isOn_77 ?_
        refine g_fold (nI (u - (mk + 1))) (pk_sub huf) ?_
        refine g_iald F 2 0 rfl rfl (vp_in_nI (by omega) (by decide)) dX13_isOn_78 ?_
        refine g_fold (hM (u - (mk + 1))) (by rw [nI_clamp (by omega)]) ?_
        refine g_fold (sp_C (u - (mk + 1))) ((hd9 _ (by omega)).2) ?_
        refine g_iadd F dX13_isOn_79 ?_
        refine g_aload_n F 2 dX13_isOn_80 rfl rfl ?_
        refine g_get (C := RX13) (T := TX13) (N := 73) (v := .ref m_planMany) F i_X13 3 rfl rfl 39 (by decide) w_3 rfl rfl dX13_isOn_81 ?_
        refine g_iload_n F 3 dX13_isOn_84 rfl rfl ?_
        refine g_iald F 2 0 rfl rfl (vp_in_nI (by omega) (by decide)) dX13_isOn_85 ?_
        refine g_fold (hM u) (by rw [nI_clamp (by omega)]) ?_
        refine g_fold (sp_C u) ((hd9 _ (Nat.le_refl _)).2) ?_
        refine g_icmp_ne F 93 dX13_isOn_86 (by decide) (fun c_86 => ?_) (fun c_86 => ?_)
        · refine g_iconst F 0 dX13_isOn_93 (by decide) ?_
          exact g_zret F hA hQ hr rfl () (gb_f (fun h9 => c_86 h9.2.2)) [3, 4, 5, 0, 1, 2] [0, 1] rfl (by decide) rfl rfl dX13_isOn_94
        · refine g_iconst F 1 dX13_isOn_89 (by decide) ?_
          refine g_goto F 94 dX13_isOn_90 (by decide) ?_
          exact g_zret F hA hQ hr rfl () (gb_t ⟨⟨huf, c_27⟩, c_67, c_86⟩) [3, 4, 5, 0, 1, 2] [0, 1] rfl (by decide) rfl rfl dX13_isOn_94
