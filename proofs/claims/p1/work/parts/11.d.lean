/-- on the fresh piece every feed is quiet at the least speed -/
theorem sp_q1 : ∀ k, k < 20 → sp_q 1 (nI (k + 1)) = true := by decide +kernel
def sp_so (M : Nat) : Nat → Int32 := fun j => if 1 ≤ j ∧ j ≤ M then 1 else 0
theorem sp_so1 {M j : Nat} (h1 : 1 ≤ j) (h : j ≤ M) : sp_so M j = 1 := if_pos ⟨h1, h⟩
theorem sp_so0 {M j : Nat} (h : ¬ (1 ≤ j ∧ j ≤ M)) : sp_so M j = 0 := if_neg h
theorem sp_so_n {M j : Nat} (h1 : 1 ≤ j) (h : ¬ sp_so M j = 0) : j ≤ M := Nat.le_of_not_lt (fun q => h (sp_so0 (fun r => by omega)))
theorem sp_so_z {M j : Nat} (h1 : 1 ≤ j) (h : sp_so M j = 0) : M < j := Nat.lt_of_not_le (fun q => absurd ((sp_so1 h1 q).symm.trans h) (by decide))
theorem sp_so_up {k : Nat} (j : Nat) : upd (sp_so k) (k + 1) 1 j = sp_so (k + 1) j := by
  by_cases e : j = k + 1
  · subst e; rw [pk_us, sp_so1 (by omega) (Nat.le_refl _)]
  · rw [pk_un e]
    unfold sp_so
    by_cases h : 1 ≤ j ∧ j ≤ k
    · rw [if_pos h, if_pos ⟨h.1, by omega⟩]
    · rw [if_neg h, if_neg (by omega)]
/-- the least time, and the fewest passes, with feeds up to f -/
def sp_lt (f j : Nat) : Int32 := if j = 0 then 0 else if f = 0 then -1 else nI (32 * ((j + (f - 1)) / f))
def sp_fw (f j : Nat) : Int32 := if j = 0 then 0 else if f = 0 then 0 else nI ((j + (f - 1)) / f)
theorem sp_ceil {w f : Nat} (h : f + 1 ≤ w) : (w + f) / (f + 1) = (w - (f + 1) + f) / (f + 1) + 1 := by
  rw [show w + f = (w - (f + 1) + f) + (f + 1) by omega, Nat.add_div_right _ (by omega)]
theorem sp_ceil_le {w f : Nat} (h : f + 1 ≤ w) (hf : 1 ≤ f) : (w + f) / (f + 1) ≤ (w + (f - 1)) / f := by
  obtain ⟨g, rfl⟩ : ∃ g, f = g + 1 := ⟨f - 1, by omega⟩
  rw [show g + 1 - 1 = g by omega]
  rw [Nat.div_le_iff_le_mul_add_pred (by omega)]
  have h1 : w + g < ((w + g) / (g + 1) + 1) * (g + 1) := by
    have := Nat.div_add_mod (w + g) (g + 1)
    have h2 := Nat.mod_lt (w + g) (show 0 < g + 1 by omega)
    rw [Nat.add_mul, Nat.mul_comm]
    omega
  have h3 : 1 ≤ (w + g) / (g + 1) := (Nat.one_le_div_iff (by omega)).mpr (by omega)
  generalize (w + g) / (g + 1) = z at h1 h3 ⊢
  have e1 : (z + 1) * (g + 1) = z * (g + 1) + (g + 1) := Nat.succ_mul _ _
  have e2 : (g + 1 + 1) * z = z * (g + 1) + z := by rw [Nat.mul_comm, Nat.mul_succ]
  omega
theorem sp_lt_s {f w : Nat} (h : f + 1 ≤ w) : sp_lt (f + 1) (w - (f + 1)) + 32 = sp_lt (f + 1) w := by
  unfold sp_lt
  rw [if_neg (show ¬ w = 0 by omega), if_neg (show ¬ f + 1 = 0 by omega), show f + 1 - 1 = f by omega, sp_ceil h, Nat.mul_add]
  by_cases e : w - (f + 1) = 0
  · rw [if_pos e, e, Nat.zero_add, Nat.div_eq_of_lt (by omega)]; rfl
  · rw [if_neg e, if_neg (by omega), show (32 : Int32) = nI 32 from rfl, nI_add]
theorem sp_fw_s {f w : Nat} (h : f + 1 ≤ w) : sp_fw (f + 1) (w - (f + 1)) + 1 = sp_fw (f + 1) w := by
  unfold sp_fw
  rw [if_neg (show ¬ w = 0 by omega), if_neg (show ¬ f + 1 = 0 by omega), show f + 1 - 1 = f by omega, sp_ceil h]
  by_cases e : w - (f + 1) = 0
  · rw [if_pos e, e, Nat.zero_add, Nat.div_eq_of_lt (by omega)]; rfl
  · rw [if_neg e, if_neg (by omega), nI_1]
theorem sp_cbd {j f : Nat} (hj : j ≤ 400) : (j + (f - 1)) / f ≤ 801 := by
  by_cases h : f = 0
  · subst h; rw [Nat.div_zero]; omega
  · by_cases h2 : f ≤ 401
    · exact Nat.le_trans (Nat.div_le_self _ _) (by omega)
    · have : (j + (f - 1)) / f < 2 := (Nat.div_lt_iff_lt_mul (by omega)).mpr (by omega)
      omega
theorem sp_lt_n1 {f j : Nat} (hj : j ≤ 400) : ¬ sp_lt (f + 1) j = -1 := by
  unfold sp_lt
  by_cases e : j = 0
  · rw [if_pos e]; decide
  · rw [if_neg e, if_neg (by omega)]
    have := sp_cbd (j := j) (f := f + 1) hj
    exact nI_n1 (by omega)
def sp_gr (U f w : Nat) (gT gF : Nat → Int32) : Prop := ∀ j, j ≤ U → gT j = (if j < w then sp_lt (f + 1) j else sp_lt f j) ∧ gF j = (if j < w then sp_fw (f + 1) j else sp_fw f j)
theorem sp_gr0 {U f : Nat} {gT gF : Nat → Int32} (h : ∀ j, j ≤ U → gT j = sp_lt f j ∧ gF j = sp_fw f j) : sp_gr U f (f + 1) gT gF := by
  intro j hj
  obtain ⟨h1, h2⟩ := h j hj
  by_cases hw : j < f + 1
  · rw [if_pos hw, if_pos hw, h1, h2]
    unfold sp_lt sp_fw
    by_cases e : j = 0
    · simp only [if_pos e, and_self]
    · have e1 : (j + (f - 1)) / f = 1 := by
        rw [show j + (f - 1) = (j - 1) + f by omega, Nat.add_div_right _ (by omega), Nat.div_eq_of_lt (by omega)]
      have e2 : (j + (f + 1 - 1)) / (f + 1) = 1 := by
        rw [show j + (f + 1 - 1) = (j - 1) + (f + 1) by omega, Nat.add_div_right _ (by omega), Nat.div_eq_of_lt (by omega)]
      rw [if_neg e, if_neg e, if_neg e, if_neg e, if_neg (by omega), if_neg (by omega), if_neg (by omega), if_neg (by omega), e1, e2]
      exact ⟨rfl, rfl⟩
  · rw [if_neg hw, if_neg hw]
    exact ⟨h1, h2⟩
theorem sp_gr1 {U f w : Nat} {gT gF : Nat → Int32} (h : sp_gr U f w gT gF) : sp_gr U f (w + 1) (upd gT w (sp_lt (f + 1) w)) (upd gF w (sp_fw (f + 1) w)) := by
  intro j hj
  obtain ⟨h1, h2⟩ := h j hj
  by_cases e : j = w
  · subst e
    rw [pk_us, pk_us, if_pos (by omega), if_pos (by omega)]
    exact ⟨rfl, rfl⟩
  · rw [pk_un e, pk_un e, h1, h2]
    by_cases hw : j < w
    · rw [if_pos hw, if_pos hw, if_pos (by omega), if_pos (by omega)]; exact ⟨rfl, rfl⟩
    · rw [if_neg hw, if_neg hw, if_neg (by omega), if_neg (by omega)]; exact ⟨rfl, rfl⟩
theorem sp_gr2 {U f w : Nat} {gT gF : Nat → Int32} (h : sp_gr U f w gT gF) (hw : f + 1 ≤ w) (hU : w ≤ 400) (n1 : ¬ sp_lt f w = -1) (n2 : ¬ sp_lt (f + 1) w < sp_lt f w) : sp_gr U f (w + 1) gT gF := by
  have key : sp_lt f w = sp_lt (f + 1) w ∧ sp_fw f w = sp_fw (f + 1) w := by
    have c1 := sp_cbd (j := w) (f := f) hU
    have c2 := sp_cbd (j := w) (f := f + 1) hU
    unfold sp_lt at n1 n2 ⊢
    unfold sp_fw
    rw [if_neg (show ¬ w = 0 by omega)] at n1 n2 ⊢
    by_cases hf : f = 0
    · exact absurd (if_pos hf) n1
    · rw [if_neg (show ¬ w = 0 by omega), if_neg (show ¬ f + 1 = 0 by omega)] at n2
      rw [if_neg hf] at n2
      have c3 := sp_ceil_le hw (by omega)
      rw [show f + 1 - 1 = f by omega] at n2 c2
      have e : (w + (f - 1)) / f = (w + f) / (f + 1) := by
        rw [nI_ltI (by omega) (by omega)] at n2
        omega
      rw [if_neg hf, if_neg (show ¬ w = 0 by omega), if_neg (show ¬ f + 1 = 0 by omega), if_neg (show ¬ w = 0 by omega), if_neg hf, if_neg (show ¬ w = 0 by omega), if_neg (show ¬ f + 1 = 0 by omega), show f + 1 - 1 = f by omega, e]
      exact ⟨rfl, rfl⟩
  intro j hj
  obtain ⟨h1, h2⟩ := h j hj
  rw [h1, h2]
  by_cases e : j = w
  · subst e
    rw [if_neg (Nat.lt_irrefl j), if_neg (Nat.lt_irrefl j), if_pos (Nat.lt_succ_self j), if_pos (Nat.lt_succ_self j)]
    exact key
  · by_cases hw2 : j < w
    · rw [if_pos hw2, if_pos hw2, if_pos (by omega), if_pos (by omega)]; exact ⟨rfl, rfl⟩
    · rw [if_neg hw2, if_neg hw2, if_neg (by omega), if_neg (by omega)]; exact ⟨rfl, rfl⟩
theorem i32_in {x : Int32} {N : Nat} (h0 : 0 ≤ x) (h : x.toInt < N) : vp_in x N := by
  obtain ⟨j, hj, rfl⟩ := nI_of (x := x) (Int32.not_lt.mpr h0)
  rw [nI_toInt hj] at h
  unfold vp_in
  rw [nI_clamp hj]
  intro q
  rcases q with q | q
  · exact nI_pos hj q
  · omega
theorem i32_rest {op : Int32} {k : Nat} (hk : k ≤ 400) (h : ¬ op < nI k) : (op - nI k).toInt = op.toInt - k := by
  have e1 : (nI k).toInt = (k : Int) := nI_toInt (by omega)
  have := Int32.toInt_lt op
  simp only [Int32.lt_iff_toInt_lt, e1] at h
  rw [gz_sub (by rw [e1]; omega) (by rw [e1]; omega), e1]

theorem dX0_findSpeeds_0 : decode cX0_findSpeeds 0 = .ok (.aload_n 0, 1) := by decide +kernel
theorem dX0_findSpeeds_1 : decode cX0_findSpeeds 1 = .ok (.getfield 9, 3) := by decide +kernel
theorem dX0_findSpeeds_4 : decode cX0_findSpeeds 4 = .ok (.iconst 0, 1) := by decide +kernel
theorem dX0_findSpeeds_5 : decode cX0_findSpeeds 5 = .ok (.invokestatic 98, 3) := by decide +kernel
theorem dX0_findSpeeds_8 : decode cX0_findSpeeds 8 = .ok (.iconst 1, 1) := by decide +kernel
theorem dX0_findSpeeds_9 : decode cX0_findSpeeds 9 = .ok (.istore_n 3, 1) := by decide +kernel
theorem dX0_findSpeeds_10 : decode cX0_findSpeeds 10 = .ok (.iload_n 3, 1) := by decide +kernel
theorem dX0_findSpeeds_11 : decode cX0_findSpeeds 11 = .ok (.iload_n 2, 1) := by decide +kernel
theorem dX0_findSpeeds_12 : decode cX0_findSpeeds 12 = .ok (.if_icmp .gt 59, 3) := by decide +kernel
theorem dX0_findSpeeds_15 : decode cX0_findSpeeds 15 = .ok (.iload_n 3, 1) := by decide +kernel
theorem dX0_findSpeeds_16 : decode cX0_findSpeeds 16 = .ok (.bipush 20, 2) := by decide +kernel
theorem dX0_findSpeeds_18 : decode cX0_findSpeeds 18 = .ok (.if_icmp .gt 53, 3) := by decide +kernel
theorem dX0_findSpeeds_21 : decode cX0_findSpeeds 21 = .ok (.iconst 1, 1) := by decide +kernel
theorem dX0_findSpeeds_22 : decode cX0_findSpeeds 22 = .ok (.istore 4, 2) := by decide +kernel
theorem dX0_findSpeeds_24 : decode cX0_findSpeeds 24 = .ok (.iload 4, 2) := by decide +kernel
theorem dX0_findSpeeds_26 : decode cX0_findSpeeds 26 = .ok (.bipush 9, 2) := by decide +kernel
theorem dX0_findSpeeds_28 : decode cX0_findSpeeds 28 = .ok (.if_icmp .gt 37, 3) := by decide +kernel
theorem dX0_findSpeeds_31 : decode cX0_findSpeeds 31 = .ok (.aload_n 0, 1) := by decide +kernel
theorem dX0_findSpeeds_32 : decode cX0_findSpeeds 32 = .ok (.getfield 9, 3) := by decide +kernel
theorem dX0_findSpeeds_35 : decode cX0_findSpeeds 35 = .ok (.iload_n 3, 1) := by decide +kernel
theorem dX0_findSpeeds_36 : decode cX0_findSpeeds 36 = .ok (.iaload, 1) := by decide +kernel
theorem dX0_findSpeeds_37 : decode cX0_findSpeeds 37 = .ok (.ifCond .ne 28, 3) := by decide +kernel
theorem dX0_findSpeeds_40 : decode cX0_findSpeeds 40 = .ok (.aload_n 0, 1) := by decide +kernel
theorem dX0_findSpeeds_41 : decode cX0_findSpeeds 41 = .ok (.iload_n 1, 1) := by decide +kernel
theorem dX0_findSpeeds_42 : decode cX0_findSpeeds 42 = .ok (.iload 4, 2) := by decide +kernel
theorem dX0_findSpeeds_44 : decode cX0_findSpeeds 44 = .ok (.iload_n 3, 1) := by decide +kernel
theorem dX0_findSpeeds_45 : decode cX0_findSpeeds 45 = .ok (.invokevirtual 60, 3) := by decide +kernel
theorem dX0_findSpeeds_48 : decode cX0_findSpeeds 48 = .ok (.ifCond .eq 11, 3) := by decide +kernel
theorem dX0_findSpeeds_51 : decode cX0_findSpeeds 51 = .ok (.aload_n 0, 1) := by decide +kernel
theorem dX0_findSpeeds_52 : decode cX0_findSpeeds 52 = .ok (.getfield 9, 3) := by decide +kernel
theorem dX0_findSpeeds_55 : decode cX0_findSpeeds 55 = .ok (.iload_n 3, 1) := by decide +kernel
theorem dX0_findSpeeds_56 : decode cX0_findSpeeds 56 = .ok (.iload 4, 2) := by decide +kernel
theorem dX0_findSpeeds_58 : decode cX0_findSpeeds 58 = .ok (.iastore, 1) := by decide +kernel
theorem dX0_findSpeeds_59 : decode cX0_findSpeeds 59 = .ok (.iinc 4 1, 3) := by decide +kernel
theorem dX0_findSpeeds_62 : decode cX0_findSpeeds 62 = .ok (.goto (-38), 3) := by decide +kernel
theorem dX0_findSpeeds_65 : decode cX0_findSpeeds 65 = .ok (.iinc 3 1, 3) := by decide +kernel
theorem dX0_findSpeeds_68 : decode cX0_findSpeeds 68 = .ok (.goto (-58), 3) := by decide +kernel
theorem dX0_findSpeeds_71 : decode cX0_findSpeeds 71 = .ok (.return_, 1) := by decide +kernel
set_option maxRecDepth 20000 in
theorem ggX0_findSpeeds_J7_fill_53178 : GoodIn wsX0_findSpeeds wsJ7_fill_53178 := goodIn_r _ [5] rfl (by decide +kernel)
set_option maxRecDepth 20000 in
theorem gX0_findSpeeds_J7_fill_53178 : GoodIn wsX0_findSpeeds (va_wsS RX0 98 yJ7_fill_53178 wsJ7_fill_53178) := goodIn_app (goodIn_of _ (by decide +kernel)) ggX0_findSpeeds_J7_fill_53178
set_option maxRecDepth 20000 in
theorem ggX0_findSpeeds_X0_isQuietForAll : GoodIn wsX0_findSpeeds wsX0_isQuietForAll := goodIn_r _ [10, 11, 12, 13, 14, 15, 16, 17, 18, 19, 20, 21, 22, 23, 24, 25, 26, 27, 28, 29, 30, 31, 32, 33, 34, 35, 36, 37, 38, 39, 40, 41, 42, 43, 44, 45, 46, 47, 48, 49, 50, 51, 52, 53, 54, 55, 56, 57, 58, 59, 60, 61, 62, 63, 64, 65, 66, 67, 68, 69, 70, 71, 72, 73, 74, 75, 76, 77, 78, 79, 80, 81, 82, 83, 84, 85, 86, 87, 3, 4, 5, 88, 89, 90, 91, 92, 93, 94, 95, 96, 97, 98, 99, 100, 101, 102, 103, 104, 105, 106, 107, 108, 109, 110, 111, 112, 113, 114, 115, 116, 117, 118, 119, 120, 121, 122, 123, 124, 125, 126, 127, 128, 129, 130, 131, 132, 133, 134, 135, 136, 137, 138, 139, 140, 141, 142, 143, 144, 145, 146, 147, 148, 149, 150, 151, 152, 153, 154, 155, 156, 157, 158, 159, 160, 161, 162, 163, 164, 165, 166, 167, 168, 169, 170, 171] rfl (by decide +kernel)
set_option maxRecDepth 20000 in
theorem gX0_findSpeeds_X0_isQuietForAll : GoodIn wsX0_findSpeeds (wsV RX0 60 RX0 yX0_isQuietForAll wsX0_isQuietForAll) := goodIn_app (goodIn_of _ (by decide +kernel)) ggX0_findSpeeds_X0_isQuietForAll
set_option maxHeartbeats 4000000 in
set_option maxRecDepth 100000 in
theorem K_X0_findSpeeds (l : Launch) (D : va_G) (xc : Nat) (xs : Nat) (xp : Nat) (xl : Nat) (ch_s : Nat) (ch_t : Nat) (ch_f : Nat) (ch_p : Nat) (la_t : Nat) (la_h : Nat) (la_u : Nat) (la_o : Nat) (la_x : Nat) (n : Nat) (fo : Nat) (wa : Nat) (we : Nat) (cf : Nat) (sf : Nat) (wf : Nat) (ch : Nat) (sh : Nat) (wh : Nat) (cg : Nat) (sg : Nat) (wg : Nat) (ph : Nat) (pl : Nat) (cI : ClassId) (l_ring : Int32) (l_speed : Int32) (l_feed : Int32) (l_turns : Int32) (l_teethMany : Int32) (l_wear : Int32) (l_x : Int32) (l_v : Int32) (l_wave : Int32) (l_time : Int32) (l_out : Int32) (l_farthest : Int32) (l_begun : Int32) (k_t : Nat → Int32) (k_h : Nat → Int32) (k_u : Nat → Int32) (k_o : Nat → Int32) (k_x : Nat → Int32) (k_1 : Nat → Int32) (k_2 : Nat → Int32) (k_3 : Nat → Int32) (s0 : Nat → Int32) (a : Int32) (M : Nat) (ha : 0 ≤ a ∧ a < 3) (hM : M ≤ 20) (sz : Nat) : Kv l yX0_findSpeeds wsX0_findSpeeds 5 151 0 0 D [.ref xc, .int a, .int (nI M)] [(xc, .inr (0, [.ref xs, .ref xp, .ref xl, .ref ch_s, .ref ch_t, .ref ch_f, .ref ch_p, .int 0])), (xp, .inr (5, [.ref xs, .ref ph, .int 0, .int 0, .ref pl])), (ph, .inl (cI, 96, .inl (fun _ => 1000))), (ch_s, .inl (cI, 21, .inl s0)), (xl, .inr (4, [.ref xs, .int l_ring, .int l_speed, .int l_feed, .int l_turns, .ref la_t, .int 0, .int l_teethMany, .ref la_h, .ref la_u, .ref la_o, .ref la_x, .int l_wear, .int l_x, .int l_v, .int l_wave, .int l_time, .int l_out, .int l_farthest, .int l_begun])), (la_t, .inl (cI, 4, .inl k_t)), (la_h, .inl (cI, 16, .inl k_h)), (la_u, .inl (cI, 16, .inl k_u)), (la_o, .inl (cI, 16, .inl k_o)), (la_x, .inl (cI, 16, .inl k_x)), (xs, .inr (6, [.ref n, .ref fo, .ref wa, .ref we])), (n, .inl (cI, 36, .inl g_nums)), (fo, .inr (2, [.ref cf, .int 1, .ref sf, .ref wf, .int 0, .int 0, .int 0, .int 0, .int 0])), (cf, .inl (cI, 80, .inl (upd (fun _ => 0) 0 (-1)))), (sf, .inl (cI, 12, .inl k_1)), (wa, .inr (2, [.ref cg, .int 1, .ref sg, .ref wg, .int 0, .int 0, .int 0, .int 0, .int 0])), (cg, .inl (cI, 80, .inl (upd (fun _ => 0) 0 0))), (sg, .inl (cI, 12, .inl k_2)), (we, .inr (2, [.ref ch, .int 1, .ref sh, .ref wh, .int 0, .int 0, .int 0, .int 0, .int 0])), (ch, .inl (cI, 80, .inl (upd (fun _ => 0) 0 0))), (sh, .inl (cI, 12, .inl k_3))] [(cI, .int)] sz (fun (u : Int32 × Int32 × Int32 × Int32 × Int32 × Int32 × Int32 × Int32 × Int32 × Int32 × Int32 × Int32 × Int32 × (Nat → Int32) × (Nat → Int32) × (Nat → Int32) × (Nat → Int32) × (Nat → Int32) × (Nat → Int32) × (Nat → Int32) × (Nat → Int32)) => True) (fun (u : Int32 × Int32 × Int32 × Int32 × Int32 × Int32 × Int32 × Int32 × Int32 × Int32 × Int32 × Int32 × Int32 × (Nat → Int32) × (Nat → Int32) × (Nat → Int32) × (Nat → Int32) × (Nat → Int32) × (Nat → Int32) × (Nat → Int32) × (Nat → Int32)) => [(xc, .inr (0, [.ref xs, .ref xp, .ref xl, .ref ch_s, .ref ch_t, .ref ch_f, .ref ch_p, .int 0])), (xp, .inr (5, [.ref xs, .ref ph, .int 0, .int 0, .ref pl])), (ph, .inl (cI, 96, .inl (fun _ => 1000))), (ch_s, .inl (cI, 21, .inl (sp_so M))), (xl, .inr (4, [.ref xs, .int u.1, .int u.2.1, .int u.2.2.1, .int u.2.2.2.1, .ref la_t, .int 0, .int u.2.2.2.2.1, .ref la_h, .ref la_u, .ref la_o, .ref la_x, .int u.2.2.2.2.2.1, .int u.2.2.2.2.2.2.1, .int u.2.2.2.2.2.2.2.1, .int u.2.2.2.2.2.2.2.2.1, .int u.2.2.2.2.2.2.2.2.2.1, .int u.2.2.2.2.2.2.2.2.2.2.1, .int u.2.2.2.2.2.2.2.2.2.2.2.1, .int u.2.2.2.2.2.2.2.2.2.2.2.2.1])), (la_t, .inl (cI, 4, .inl u.2.2.2.2.2.2.2.2.2.2.2.2.2.1)), (la_h, .inl (cI, 16, .inl u.2.2.2.2.2.2.2.2.2.2.2.2.2.2.1)), (la_u, .inl (cI, 16, .inl u.2.2.2.2.2.2.2.2.2.2.2.2.2.2.2.1)), (la_o, .inl (cI, 16, .inl u.2.2.2.2.2.2.2.2.2.2.2.2.2.2.2.2.1)), (la_x, .inl (cI, 16, .inl u.2.2.2.2.2.2.2.2.2.2.2.2.2.2.2.2.2.1)), (xs, .inr (6, [.ref n, .ref fo, .ref wa, .ref we])), (n, .inl (cI, 36, .inl g_nums)), (fo, .inr (2, [.ref cf, .int 1, .ref sf, .ref wf, .int 0, .int 0, .int 0, .int 0, .int 0])), (cf, .inl (cI, 80, .inl (upd (fun _ => 0) 0 (-1)))), (sf, .inl (cI, 12, .inl u.2.2.2.2.2.2.2.2.2.2.2.2.2.2.2.2.2.2.1)), (wa, .inr (2, [.ref cg, .int 1, .ref sg, .ref wg, .int 0, .int 0, .int 0, .int 0, .int 0])), (cg, .inl (cI, 80, .inl (upd (fun _ => 0) 0 0))), (sg, .inl (cI, 12, .inl u.2.2.2.2.2.2.2.2.2.2.2.2.2.2.2.2.2.2.2.1)), (we, .inr (2, [.ref ch, .int 1, .ref sh, .ref wh, .int 0, .int 0, .int 0, .int 0, .int 0])), (ch, .inl (cI, 80, .inl (upd (fun _ => 0) 0 0))), (sh, .inl (cI, 12, .inl u.2.2.2.2.2.2.2.2.2.2.2.2.2.2.2.2.2.2.2.2))]) (fun (_ : Int32 × Int32 × Int32 × Int32 × Int32 × Int32 × Int32 × Int32 × Int32 × Int32 × Int32 × Int32 × Int32 × (Nat → Int32) × (Nat → Int32) × (Nat → Int32) × (Nat → Int32) × (Nat → Int32) × (Nat → Int32) × (Nat → Int32) × (Nat → Int32)) => [(cI, .int)]) := by
  unfold Kv
  refine g_ofW (cc := cX0_findSpeeds) (lv := [(0, .ref xc), (1, .int a), (2, .int (nI M))]) (by decide) rfl (Nat.le_of_ble_eq_true rfl) rfl ?_
  intro p e s m args below meth c A Q hA hQ F hr hnm
  have hts := F.2.2.2.2.1
  have w_0 : (Cond.fieldLink RX0 9 "QuietCut$Chooser" "speedOf" "[I").before args s = true := hts _ (List.mem_of_getElem? (i := 1) rfl)
  have i_X0 : ∀ w ∈ u_ws RX0 TX0 8, w ∈ wsX0_findSpeeds := fun _ h => List.mem_cons_of_mem _ (List.mem_append_left _ (List.mem_append_left _ (List.mem_append_left _ (List.mem_append_left _ (List.mem_append_right _ h)))))
  refine g_aload_n F 0 dX0_findSpeeds_0 rfl rfl ?_
  refine g_get (C := RX0) (T := TX0) (N := 8) (v := .ref ch_s) F i_X0 0 rfl rfl 3 (by decide) w_0 rfl rfl dX0_findSpeeds_1 ?_
  refine g_iconst F 0 dX0_findSpeeds_4 (by decide) ?_
  refine g_callSv (k := 0) (n := 0) (As := [.ref ch_s, .int 0]) (st := []) (wc := [(ch_s, .inl (cI, 21, .inl s0))]) (wr := [(xc, .inr (0, [.ref xs, .ref xp, .ref xl, .ref ch_s, .ref ch_t, .ref ch_f, .ref ch_p, .int 0])), (xp, .inr (5, [.ref xs, .ref ph, .int 0, .int 0, .ref pl])), (ph, .inl (cI, 96, .inl (fun _ => 1000))), (xl, .inr (4, [.ref xs, .int l_ring, .int l_speed, .int l_feed, .int l_turns, .ref la_t, .int 0, .int l_teethMany, .ref la_h, .ref la_u, .ref la_o, .ref la_x, .int l_wear, .int l_x, .int l_v, .int l_wave, .int l_time, .int l_out, .int l_farthest, .int l_begun])), (la_t, .inl (cI, 4, .inl k_t)), (la_h, .inl (cI, 16, .inl k_h)), (la_u, .inl (cI, 16, .inl k_u)), (la_o, .inl (cI, 16, .inl k_o)), (la_x, .inl (cI, 16, .inl k_x)), (xs, .inr (6, [.ref n, .ref fo, .ref wa, .ref we])), (n, .inl (cI, 36, .inl g_nums)), (fo, .inr (2, [.ref cf, .int 1, .ref sf, .ref wf, .int 0, .int 0, .int 0, .int 0, .int 0])), (cf, .inl (cI, 80, .inl (upd (fun _ => 0) 0 (-1)))), (sf, .inl (cI, 12, .inl k_1)), (wa, .inr (2, [.ref cg, .int 1, .ref sg, .ref wg, .int 0, .int 0, .int 0, .int 0, .int 0])), (cg, .inl (cI, 80, .inl (upd (fun _ => 0) 0 0))), (sg, .inl (cI, 12, .inl k_2)), (we, .inr (2, [.ref ch, .int 1, .ref sh, .ref wh, .int 0, .int 0, .int 0, .int 0, .int 0])), (ch, .inl (cI, 80, .inl (upd (fun _ => 0) 0 0))), (sh, .inl (cI, 12, .inl k_3))]) F [3] [0, 1, 2, 4, 5, 6, 7, 8, 9, 10, 11, 12, 13, 14, 15, 16, 17, 18, 19, 20] [0] rfl rfl (by decide) rfl (by decide) (by decide) rfl (fun sz => K_J7_fill_53178 l D ch_s 21 s0 0 cI (by decide) sz) (va_cwS 2 hts gX0_findSpeeds_J7_fill_53178 rfl rfl rfl (by decide +kernel) ⟨Nat.le_of_ble_eq_true rfl, Nat.le_of_ble_eq_true rfl⟩) rfl (Nat.le_of_ble_eq_true rfl) ⟨Nat.le_of_ble_eq_true rfl, Nat.le_of_ble_eq_true rfl⟩ dX0_findSpeeds_5 (fun _ hw_2 => ?_)
  show gG p l e (gR 5 0 0 151) s m args below meth c D A 5 Q 0 0 [(xc, .inr (0, [.ref xs, .ref xp, .ref xl, .ref ch_s, .ref ch_t, .ref ch_f, .ref ch_p, .int 0])), (xp, .inr (5, [.ref xs, .ref ph, .int 0, .int 0, .ref pl])), (ph, .inl (cI, 96, .inl (fun _ => 1000))), (xl, .inr (4, [.ref xs, .int l_ring, .int l_speed, .int l_feed, .int l_turns, .ref la_t, .int 0, .int l_teethMany, .ref la_h, .ref la_u, .ref la_o, .ref la_x, .int l_wear, .int l_x, .int l_v, .int l_wave, .int l_time, .int l_out, .int l_farthest, .int l_begun])), (la_t, .inl (cI, 4, .inl k_t)), (la_h, .inl (cI, 16, .inl k_h)), (la_u, .inl (cI, 16, .inl k_u)), (la_o, .inl (cI, 16, .inl k_o)), (la_x, .inl (cI, 16, .inl k_x)), (xs, .inr (6, [.ref n, .ref fo, .ref wa, .ref we])), (n, .inl (cI, 36, .inl g_nums)), (fo, .inr (2, [.ref cf, .int 1, .ref sf, .ref wf, .int 0, .int 0, .int 0, .int 0, .int 0])), (cf, .inl (cI, 80, .inl (upd (fun _ => 0) 0 (-1)))), (sf, .inl (cI, 12, .inl k_1)), (wa, .inr (2, [.ref cg, .int 1, .ref sg, .ref wg, .int 0, .int 0, .int 0, .int 0, .int 0])), (cg, .inl (cI, 80, .inl (upd (fun _ => 0) 0 0))), (sg, .inl (cI, 12, .inl k_2)), (we, .inr (2, [.ref ch, .int 1, .ref sh, .ref wh, .int 0, .int 0, .int 0, .int 0, .int 0])), (ch, .inl (cI, 80, .inl (upd (fun _ => 0) 0 0))), (sh, .inl (cI, 12, .inl k_3)), (ch_s, .inl (cI, 21, .inl (fun _ => 0)))] [(cI, .int)] [(0, .ref xc), (1, .int a), (2, .int (nI M))] 8 []
  refine g_iconst F 1 dX0_findSpeeds_8 (by decide) ?_
  refine g_cell 20 (sp_so 0) rfl (fun j hj => by rw [sp_so0 (by omega)]) [(xc, .inr (0, [.ref xs, .ref xp, .ref xl, .ref ch_s, .ref ch_t, .ref ch_f, .ref ch_p, .int 0])), (xp, .inr (5, [.ref xs, .ref ph, .int 0, .int 0, .ref pl])), (ph, .inl (cI, 96, .inl (fun _ => 1000))), (xl, .inr (4, [.ref xs, .int l_ring, .int l_speed, .int l_feed, .int l_turns, .ref la_t, .int 0, .int l_teethMany, .ref la_h, .ref la_u, .ref la_o, .ref la_x, .int l_wear, .int l_x, .int l_v, .int l_wave, .int l_time, .int l_out, .int l_farthest, .int l_begun])), (la_t, .inl (cI, 4, .inl k_t)), (la_h, .inl (cI, 16, .inl k_h)), (la_u, .inl (cI, 16, .inl k_u)), (la_o, .inl (cI, 16, .inl k_o)), (la_x, .inl (cI, 16, .inl k_x)), (xs, .inr (6, [.ref n, .ref fo, .ref wa, .ref we])), (n, .inl (cI, 36, .inl g_nums)), (fo, .inr (2, [.ref cf, .int 1, .ref sf, .ref wf, .int 0, .int 0, .int 0, .int 0, .int 0])), (cf, .inl (cI, 80, .inl (upd (fun _ => 0) 0 (-1)))), (sf, .inl (cI, 12, .inl k_1)), (wa, .inr (2, [.ref cg, .int 1, .ref sg, .ref wg, .int 0, .int 0, .int 0, .int 0, .int 0])), (cg, .inl (cI, 80, .inl (upd (fun _ => 0) 0 0))), (sg, .inl (cI, 12, .inl k_2)), (we, .inr (2, [.ref ch, .int 1, .ref sh, .ref wh, .int 0, .int 0, .int 0, .int 0, .int 0])), (ch, .inl (cI, 80, .inl (upd (fun _ => 0) 0 0))), (sh, .inl (cI, 12, .inl k_3)), (ch_s, .inl (cI, 21, .inl (sp_so 0)))] rfl ?_
  refine g_istore_n F [(3, .int 1), (0, .ref xc), (1, .int a), (2, .int (nI M))] dX0_findSpeeds_9 rfl (by decide) rfl ?_
  refine g_locals [(0, .ref xc), (1, .int a), (2, .int (nI M)), (3, .int 1)] [1, 2, 3, 0] rfl ?_
  have loop_10 : ∀ (fuel : Nat) (k : Nat) (y_ring : Int32) (y_speed : Int32) (y_feed : Int32) (y_turns : Int32) (y_teethMany : Int32) (y_wear : Int32) (y_x : Int32) (y_v : Int32) (y_wave : Int32) (y_time : Int32) (y_out : Int32) (y_farthest : Int32) (y_begun : Int32) (y_t : Nat → Int32) (y_h : Nat → Int32) (y_u : Nat → Int32) (y_o : Nat → Int32) (y_x2 : Nat → Int32) (y_1 : Nat → Int32) (y_2 : Nat → Int32) (y_3 : Nat → Int32), M - k < fuel → (k ≤ M) → gG p l e (gR 5 0 0 151) s m args below meth c D A 5 Q 0 0 [(xc, .inr (0, [.ref xs, .ref xp, .ref xl, .ref ch_s, .ref ch_t, .ref ch_f, .ref ch_p, .int 0])), (xp, .inr (5, [.ref xs, .ref ph, .int 0, .int 0, .ref pl])), (ph, .inl (cI, 96, .inl (fun _ => 1000))), (xl, .inr (4, [.ref xs, .int y_ring, .int y_speed, .int y_feed, .int y_turns, .ref la_t, .int 0, .int y_teethMany, .ref la_h, .ref la_u, .ref la_o, .ref la_x, .int y_wear, .int y_x, .int y_v, .int y_wave, .int y_time, .int y_out, .int y_farthest, .int y_begun])), (la_t, .inl (cI, 4, .inl y_t)), (la_h, .inl (cI, 16, .inl y_h)), (la_u, .inl (cI, 16, .inl y_u)), (la_o, .inl (cI, 16, .inl y_o)), (la_x, .inl (cI, 16, .inl y_x2)), (xs, .inr (6, [.ref n, .ref fo, .ref wa, .ref we])), (n, .inl (cI, 36, .inl g_nums)), (fo, .inr (2, [.ref cf, .int 1, .ref sf, .ref wf, .int 0, .int 0, .int 0, .int 0, .int 0])), (cf, .inl (cI, 80, .inl (upd (fun _ => 0) 0 (-1)))), (sf, .inl (cI, 12, .inl y_1)), (wa, .inr (2, [.ref cg, .int 1, .ref sg, .ref wg, .int 0, .int 0, .int 0, .int 0, .int 0])), (cg, .inl (cI, 80, .inl (upd (fun _ => 0) 0 0))), (sg, .inl (cI, 12, .inl y_2)), (we, .inr (2, [.ref ch, .int 1, .ref sh, .ref wh, .int 0, .int 0, .int 0, .int 0, .int 0])), (ch, .inl (cI, 80, .inl (upd (fun _ => 0) 0 0))), (sh, .inl (cI, 12, .inl y_3)), (ch_s, .inl (cI, 21, .inl (sp_so k)))] [(cI, .int)] [(0, .ref xc), (1, .int a), (2, .int (nI M)), (3, .int (nI (k + 1)))] 10 [] := by
    intro fuel_10
    induction fuel_10 with
    | zero => intro k y_ring y_speed y_feed y_turns y_teethMany y_wear y_x y_v y_wave y_time y_out y_farthest y_begun y_t y_h y_u y_o y_x2 y_1 y_2 y_3 hm; exact absurd hm (Nat.not_lt_zero _)
    | succ fuel_10 ih_10 =>
      intro k y_ring y_speed y_feed y_turns y_teethMany y_wear y_x y_v y_wave y_time y_out y_farthest y_begun y_t y_h y_u y_o y_x2 y_1 y_2 y_3 hm10 hk0
      refine g_iload_n F 3 dX0_findSpeeds_10 rfl rfl ?_
      refine g_iload_n F 2 dX0_findSpeeds_11 rfl rfl ?_
      refine g_icmp_gt F 71 dX0_findSpeeds_12 (by decide) (fun c_12 => ?_) (fun c_12 => ?_)
      · have hkM : k = M := by { rcases Nat.lt_or_ge k M with h | h; exact absurd c_12 (nI_nlt (a := M) (b := k + 1) (by omega) (by omega)); omega }
        subst hkM
        exact g_vret F hA hQ hr (y_ring, y_speed, y_feed, y_turns, y_teethMany, y_wear, y_x, y_v, y_wave, y_time, y_out, y_farthest, y_begun, y_t, y_h, y_u, y_o, y_x2, y_1, y_2, y_3) (trivial) [0, 1, 2, 20, 3, 4, 5, 6, 7, 8, 9, 10, 11, 12, 13, 14, 15, 16, 17, 18, 19] [0] rfl (by decide) rfl rfl dX0_findSpeeds_71
      · have hk : k + 1 ≤ M := by rcases Nat.lt_or_ge k M with h | h; omega; exact absurd (nI_lt (a := M) (b := k + 1) (by omega) (by omega)) c_12
        refine g_iload_n F 3 dX0_findSpeeds_15 rfl rfl ?_
        refine g_bipush F 20 dX0_findSpeeds_16 (by decide) ?_
        refine g_icmp_gt F 71 dX0_findSpeeds_18 (by decide) (fun h9 => absurd h9 (nI_nlt (a := 20) (b := k + 1) (by omega) (by omega))) (fun c_18 => ?_)
        refine g_iconst F 1 dX0_findSpeeds_21 (by decide) ?_
        refine g_istore F [(4, .int 1), (0, .ref xc), (1, .int a), (2, .int (nI M)), (3, .int (nI (k + 1)))] dX0_findSpeeds_22 (by decide) rfl ?_
        refine g_iload F 0 dX0_findSpeeds_24 rfl ?_
        refine g_bipush F 9 dX0_findSpeeds_26 (by decide) ?_
        refine g_icmp_gt F 65 dX0_findSpeeds_28 (by decide) (fun h9 => absurd h9 (by decide)) (fun c_28 => ?_)
        refine g_aload_n F 1 dX0_findSpeeds_31 rfl rfl ?_
        refine g_get (C := RX0) (T := TX0) (N := 8) (v := .ref ch_s) F i_X0 0 rfl rfl 3 (by decide) w_0 rfl rfl dX0_findSpeeds_32 ?_
        refine g_iload_n F 4 dX0_findSpeeds_35 rfl rfl ?_
        refine g_iald F 20 0 rfl rfl (vp_in_nI (by omega) (by decide)) dX0_findSpeeds_36 ?_
        refine g_fold ((sp_so k) (k + 1)) (by rw [nI_clamp (by omega)]) ?_
        refine g_fold 0 (sp_so0 (by omega)) ?_
        refine g_if_ne F 65 dX0_findSpeeds_37 (by decide) (fun h9 => absurd (by decide) h9) (fun c_37 => ?_)
        refine g_aload_n F 1 dX0_findSpeeds_40 rfl rfl ?_
        refine g_iload_n F 2 dX0_findSpeeds_41 rfl rfl ?_
        refine g_iload F 0 dX0_findSpeeds_42 rfl ?_
        refine g_iload_n F 4 dX0_findSpeeds_44 rfl rfl ?_
        refine g_callVi (k := 0) (n := 0) (b := xc) (As := [.int a, .int 1, .int (nI (k + 1))]) (st := []) (wc := [(xc, .inr (0, [.ref xs, .ref xp, .ref xl, .ref ch_s, .ref ch_t, .ref ch_f, .ref ch_p, .int 0])), (xp, .inr (5, [.ref xs, .ref ph, .int 0, .int 0, .ref pl])), (ph, .inl (cI, 96, .inl (fun _ => 1000))), (xl, .inr (4, [.ref xs, .int y_ring, .int y_speed, .int y_feed, .int y_turns, .ref la_t, .int 0, .int y_teethMany, .ref la_h, .ref la_u, .ref la_o, .ref la_x, .int y_wear, .int y_x, .int y_v, .int y_wave, .int y_time, .int y_out, .int y_farthest, .int y_begun])), (la_t, .inl (cI, 4, .inl y_t)), (la_h, .inl (cI, 16, .inl y_h)), (la_u, .inl (cI, 16, .inl y_u)), (la_o, .inl (cI, 16, .inl y_o)), (la_x, .inl (cI, 16, .inl y_x2)), (xs, .inr (6, [.ref n, .ref fo, .ref wa, .ref we])), (n, .inl (cI, 36, .inl g_nums)), (fo, .inr (2, [.ref cf, .int 1, .ref sf, .ref wf, .int 0, .int 0, .int 0, .int 0, .int 0])), (cf, .inl (cI, 80, .inl (upd (fun _ => 0) 0 (-1)))), (sf, .inl (cI, 12, .inl y_1)), (wa, .inr (2, [.ref cg, .int 1, .ref sg, .ref wg, .int 0, .int 0, .int 0, .int 0, .int 0])), (cg, .inl (cI, 80, .inl (upd (fun _ => 0) 0 0))), (sg, .inl (cI, 12, .inl y_2)), (we, .inr (2, [.ref ch, .int 1, .ref sh, .ref wh, .int 0, .int 0, .int 0, .int 0, .int 0])), (ch, .inl (cI, 80, .inl (upd (fun _ => 0) 0 0))), (sh, .inl (cI, 12, .inl y_3))]) (wr := [(ch_s, .inl (cI, 21, .inl (sp_so k)))]) F [0, 1, 2, 3, 4, 5, 6, 7, 8, 9, 10, 11, 12, 13, 14, 15, 16, 17, 18, 19] [20] [0] rfl rfl (by decide) rfl (by decide) (by decide) rfl (fun sz => K_X0_isQuietForAll l D xc xs xp xl ch_s ch_t ch_f ch_p la_t la_h la_u la_o la_x n fo wa we cf sf wf ch sh wh cg sg wg ph pl cI y_ring y_speed y_feed y_turns y_teethMany y_wear y_x y_v y_wave y_time y_out y_farthest y_begun y_t y_h y_u y_o y_x2 y_1 y_2 y_3 a 1 (nI (k + 1))  sz) (cwV 3 hts gX0_findSpeeds_X0_isQuietForAll rfl rfl rfl (by decide +kernel) ⟨Nat.le_of_ble_eq_true rfl, Nat.le_of_ble_eq_true rfl⟩) rfl 0 rfl rfl (Nat.le_of_ble_eq_true rfl) ⟨Nat.le_of_ble_eq_true rfl, Nat.le_of_ble_eq_true rfl⟩ dX0_findSpeeds_45 (fun r_6 u_5 hw_7 => ?_)
        obtain ⟨z_ring_8, z_speed_8, z_feed_8, z_turns_8, z_teethMany_8, z_wear_8, z_x_8, z_v_8, z_wave_8, z_time_8, z_out_8, z_farthest_8, z_begun_8, g_t_8, g_h_8, g_u_8, g_o_8, g_x_8, g_1_8, g_2_8, g_3_8⟩ := u_5
        have hw_7 : r_6 = (if (0 ≤ a ∧ a < 3 ∧ 1 ≤ (1 : Int32) ∧ (1 : Int32) ≤ 9 ∧ 1 ≤ (nI (k + 1)) ∧ (nI (k + 1)) ≤ 20) ∧ sp_q (1 : Int32) (nI (k + 1)) = true then 1 else 0) := hw_7
        have e_r_6 := hw_7
        show gG p l e (gR 5 0 0 151) s m args below meth c D A 5 Q 0 0 [(ch_s, .inl (cI, 21, .inl (sp_so k))), (xc, .inr (0, [.ref xs, .ref xp, .ref xl, .ref ch_s, .ref ch_t, .ref ch_f, .ref ch_p, .int 0])), (xp, .inr (5, [.ref xs, .ref ph, .int 0, .int 0, .ref pl])), (ph, .inl (cI, 96, .inl (fun _ => 1000))), (xl, .inr (4, [.ref xs, .int z_ring_8, .int z_speed_8, .int z_feed_8, .int z_turns_8, .ref la_t, .int 0, .int z_teethMany_8, .ref la_h, .ref la_u, .ref la_o, .ref la_x, .int z_wear_8, .int z_x_8, .int z_v_8, .int z_wave_8, .int z_time_8, .int z_out_8, .int z_farthest_8, .int z_begun_8])), (la_t, .inl (cI, 4, .inl g_t_8)), (la_h, .inl (cI, 16, .inl g_h_8)), (la_u, .inl (cI, 16, .inl g_u_8)), (la_o, .inl (cI, 16, .inl g_o_8)), (la_x, .inl (cI, 16, .inl g_x_8)), (xs, .inr (6, [.ref n, .ref fo, .ref wa, .ref we])), (n, .inl (cI, 36, .inl g_nums)), (fo, .inr (2, [.ref cf, .int 1, .ref sf, .ref wf, .int 0, .int 0, .int 0, .int 0, .int 0])), (cf, .inl (cI, 80, .inl (upd (fun _ => 0) 0 (-1)))), (sf, .inl (cI, 12, .inl g_1_8)), (wa, .inr (2, [.ref cg, .int 1, .ref sg, .ref wg, .int 0, .int 0, .int 0, .int 0, .int 0])), (cg, .inl (cI, 80, .inl (upd (fun _ => 0) 0 0))), (sg, .inl (cI, 12, .inl g_2_8)), (we, .inr (2, [.ref ch, .int 1, .ref sh, .ref wh, .int 0, .int 0, .int 0, .int 0, .int 0])), (ch, .inl (cI, 80, .inl (upd (fun _ => 0) 0 0))), (sh, .inl (cI, 12, .inl g_3_8))] [(cI, .int)] [(4, .int 1), (0, .ref xc), (1, .int a), (2, .int (nI M)), (3, .int (nI (k + 1)))] 48 [.int r_6]
        refine g_fold (if (0 ≤ a ∧ a < 3 ∧ 1 ≤ (1 : Int32) ∧ (1 : Int32) ≤ 9 ∧ 1 ≤ (nI (k + 1)) ∧ (nI (k + 1)) ≤ 20) ∧ sp_q (1 : Int32) (nI (k + 1)) = true then 1 else 0) e_r_6 ?_
        refine g_if_eq F 59 dX0_findSpeeds_48 (by decide) (fun h9 => absurd h9 (fun q => absurd (gb_0 q) (fun h9 => h9 ⟨⟨ha.1, ha.2, by decide, by decide, (gi_fd (j := k) (by omega)).1, (gi_fd (j := k) (by omega)).2⟩, sp_q1 k (by omega)⟩))) (fun c_48 => ?_)
        refine g_aload_n F 1 dX0_findSpeeds_51 rfl rfl ?_
        refine g_get (C := RX0) (T := TX0) (N := 8) (v := .ref ch_s) F i_X0 1 rfl rfl 3 (by decide) w_0 rfl rfl dX0_findSpeeds_52 ?_
        refine g_iload_n F 4 dX0_findSpeeds_55 rfl rfl ?_
        refine g_iload F 0 dX0_findSpeeds_56 rfl ?_
        refine g_iast F 0 0 rfl rfl (vp_in_nI (by omega) (by decide)) [(ch_s, .inl (cI, 21, .inl (upd (sp_so k) (k + 1) 1))), (xc, .inr (0, [.ref xs, .ref xp, .ref xl, .ref ch_s, .ref ch_t, .ref ch_f, .ref ch_p, .int 0])), (xp, .inr (5, [.ref xs, .ref ph, .int 0, .int 0, .ref pl])), (ph, .inl (cI, 96, .inl (fun _ => 1000))), (xl, .inr (4, [.ref xs, .int z_ring_8, .int z_speed_8, .int z_feed_8, .int z_turns_8, .ref la_t, .int 0, .int z_teethMany_8, .ref la_h, .ref la_u, .ref la_o, .ref la_x, .int z_wear_8, .int z_x_8, .int z_v_8, .int z_wave_8, .int z_time_8, .int z_out_8, .int z_farthest_8, .int z_begun_8])), (la_t, .inl (cI, 4, .inl g_t_8)), (la_h, .inl (cI, 16, .inl g_h_8)), (la_u, .inl (cI, 16, .inl g_u_8)), (la_o, .inl (cI, 16, .inl g_o_8)), (la_x, .inl (cI, 16, .inl g_x_8)), (xs, .inr (6, [.ref n, .ref fo, .ref wa, .ref we])), (n, .inl (cI, 36, .inl g_nums)), (fo, .inr (2, [.ref cf, .int 1, .ref sf, .ref wf, .int 0, .int 0, .int 0, .int 0, .int 0])), (cf, .inl (cI, 80, .inl (upd (fun _ => 0) 0 (-1)))), (sf, .inl (cI, 12, .inl g_1_8)), (wa, .inr (2, [.ref cg, .int 1, .ref sg, .ref wg, .int 0, .int 0, .int 0, .int 0, .int 0])), (cg, .inl (cI, 80, .inl (upd (fun _ => 0) 0 0))), (sg, .inl (cI, 12, .inl g_2_8)), (we, .inr (2, [.ref ch, .int 1, .ref sh, .ref wh, .int 0, .int 0, .int 0, .int 0, .int 0])), (ch, .inl (cI, 80, .inl (upd (fun _ => 0) 0 0))), (sh, .inl (cI, 12, .inl g_3_8))] (by rw [nI_clamp (by omega)]; rfl) dX0_findSpeeds_58 ?_
        refine g_iinc F (j := 0) 2 [(4, .int 2), (0, .ref xc), (1, .int a), (2, .int (nI M)), (3, .int (nI (k + 1)))] dX0_findSpeeds_59 rfl (by decide) (by decide) rfl ?_
        refine g_goto F 24 dX0_findSpeeds_62 (by decide) ?_
        refine g_iload F 0 dX0_findSpeeds_24 rfl ?_
        refine g_bipush F 9 dX0_findSpeeds_26 (by decide) ?_
        refine g_icmp_gt F 65 dX0_findSpeeds_28 (by decide) (fun h9 => absurd h9 (by decide)) (fun c_28 => ?_)
        refine g_aload_n F 1 dX0_findSpeeds_31 rfl rfl ?_
        refine g_get (C := RX0) (T := TX0) (N := 8) (v := .ref ch_s) F i_X0 1 rfl rfl 3 (by decide) w_0 rfl rfl dX0_findSpeeds_32 ?_
        refine g_iload_n F 4 dX0_findSpeeds_35 rfl rfl ?_
        refine g_iald F 0 0 rfl rfl (vp_in_nI (by omega) (by decide)) dX0_findSpeeds_36 ?_
        refine g_fold ((upd (sp_so k) (k + 1) 1) (k + 1)) (by rw [nI_clamp (by omega)]) ?_
        refine g_fold 1 (pk_us) ?_
        refine g_if_ne F 65 dX0_findSpeeds_37 (by decide) (fun c_37 => ?_) (fun h9 => absurd h9 (by decide)) 
        refine g_cell 0 (sp_so (k + 1)) rfl (fun j _ => sp_so_up j) [(ch_s, .inl (cI, 21, .inl (sp_so (k + 1)))), (xc, .inr (0, [.ref xs, .ref xp, .ref xl, .ref ch_s, .ref ch_t, .ref ch_f, .ref ch_p, .int 0])), (xp, .inr (5, [.ref xs, .ref ph, .int 0, .int 0, .ref pl])), (ph, .inl (cI, 96, .inl (fun _ => 1000))), (xl, .inr (4, [.ref xs, .int z_ring_8, .int z_speed_8, .int z_feed_8, .int z_turns_8, .ref la_t, .int 0, .int z_teethMany_8, .ref la_h, .ref la_u, .ref la_o, .ref la_x, .int z_wear_8, .int z_x_8, .int z_v_8, .int z_wave_8, .int z_time_8, .int z_out_8, .int z_farthest_8, .int z_begun_8])), (la_t, .inl (cI, 4, .inl g_t_8)), (la_h, .inl (cI, 16, .inl g_h_8)), (la_u, .inl (cI, 16, .inl g_u_8)), (la_o, .inl (cI, 16, .inl g_o_8)), (la_x, .inl (cI, 16, .inl g_x_8)), (xs, .inr (6, [.ref n, .ref fo, .ref wa, .ref we])), (n, .inl (cI, 36, .inl g_nums)), (fo, .inr (2, [.ref cf, .int 1, .ref sf, .ref wf, .int 0, .int 0, .int 0, .int 0, .int 0])), (cf, .inl (cI, 80, .inl (upd (fun _ => 0) 0 (-1)))), (sf, .inl (cI, 12, .inl g_1_8)), (wa, .inr (2, [.ref cg, .int 1, .ref sg, .ref wg, .int 0, .int 0, .int 0, .int 0, .int 0])), (cg, .inl (cI, 80, .inl (upd (fun _ => 0) 0 0))), (sg, .inl (cI, 12, .inl g_2_8)), (we, .inr (2, [.ref ch, .int 1, .ref sh, .ref wh, .int 0, .int 0, .int 0, .int 0, .int 0])), (ch, .inl (cI, 80, .inl (upd (fun _ => 0) 0 0))), (sh, .inl (cI, 12, .inl g_3_8))] rfl ?_
        refine g_iinc F (j := 4) (nI (k + 1 + 1)) [(3, .int (nI (k + 1 + 1))), (4, .int 2), (0, .ref xc), (1, .int a), (2, .int (nI M))] dX0_findSpeeds_65 rfl (nI_1 (k + 1)) (by decide) rfl ?_
        refine g_goto F 10 dX0_findSpeeds_68 (by decide) ?_
        refine g_locals [(0, .ref xc), (1, .int a), (2, .int (nI M)), (3, .int (nI (k + 1 + 1)))] [2, 3, 4, 0] rfl ?_
        refine g_world [(xc, .inr (0, [.ref xs, .ref xp, .ref xl, .ref ch_s, .ref ch_t, .ref ch_f, .ref ch_p, .int 0])), (xp, .inr (5, [.ref xs, .ref ph, .int 0, .int 0, .ref pl])), (ph, .inl (cI, 96, .inl (fun _ => 1000))), (xl, .inr (4, [.ref xs, .int z_ring_8, .int z_speed_8, .int z_feed_8, .int z_turns_8, .ref la_t, .int 0, .int z_teethMany_8, .ref la_h, .ref la_u, .ref la_o, .ref la_x, .int z_wear_8, .int z_x_8, .int z_v_8, .int z_wave_8, .int z_time_8, .int z_out_8, .int z_farthest_8, .int z_begun_8])), (la_t, .inl (cI, 4, .inl g_t_8)), (la_h, .inl (cI, 16, .inl g_h_8)), (la_u, .inl (cI, 16, .inl g_u_8)), (la_o, .inl (cI, 16, .inl g_o_8)), (la_x, .inl (cI, 16, .inl g_x_8)), (xs, .inr (6, [.ref n, .ref fo, .ref wa, .ref we])), (n, .inl (cI, 36, .inl g_nums)), (fo, .inr (2, [.ref cf, .int 1, .ref sf, .ref wf, .int 0, .int 0, .int 0, .int 0, .int 0])), (cf, .inl (cI, 80, .inl (upd (fun _ => 0) 0 (-1)))), (sf, .inl (cI, 12, .inl g_1_8)), (wa, .inr (2, [.ref cg, .int 1, .ref sg, .ref wg, .int 0, .int 0, .int 0, .int 0, .int 0])), (cg, .inl (cI, 80, .inl (upd (fun _ => 0) 0 0))), (sg, .inl (cI, 12, .inl g_2_8)), (we, .inr (2, [.ref ch, .int 1, .ref sh, .ref wh, .int 0, .int 0, .int 0, .int 0, .int 0])), (ch, .inl (cI, 80, .inl (upd (fun _ => 0) 0 0))), (sh, .inl (cI, 12, .inl g_3_8)), (ch_s, .inl (cI, 21, .inl (sp_so (k + 1))))] [1, 2, 3, 4, 5, 6, 7, 8, 9, 10, 11, 12, 13, 14, 15, 16, 17, 18, 19, 20, 0] rfl (by decide) rfl ?_
        exact ih_10 (k + 1) z_ring_8 z_speed_8 z_feed_8 z_turns_8 z_teethMany_8 z_wear_8 z_x_8 z_v_8 z_wave_8 z_time_8 z_out_8 z_farthest_8 z_begun_8 g_t_8 g_h_8 g_u_8 g_o_8 g_x_8 g_1_8 g_2_8 g_3_8 (by omega) (hk)
  exact loop_10 (_ + 1) 0 l_ring l_speed l_feed l_turns l_teethMany l_wear l_x l_v l_wave l_time l_out l_farthest l_begun k_t k_h k_u k_o k_x k_1 k_2 k_3 (Nat.lt_succ_self _) (Nat.zero_le _)

theorem dX0_growTimes_0 : decode cX0_growTimes 0 = .ok (.iconst 1, 1) := by decide +kernel
theorem dX0_growTimes_1 : decode cX0_growTimes 1 = .ok (.iload_n 1, 1) := by decide +kernel
theorem dX0_growTimes_2 : decode cX0_growTimes 2 = .ok (.invokestatic 108, 3) := by decide +kernel
theorem dX0_growTimes_5 : decode cX0_growTimes 5 = .ok (.istore 4, 2) := by decide +kernel
theorem dX0_growTimes_7 : decode cX0_growTimes 7 = .ok (.iload 4, 2) := by decide +kernel
theorem dX0_growTimes_9 : decode cX0_growTimes 9 = .ok (.iload_n 3, 1) := by decide +kernel
theorem dX0_growTimes_10 : decode cX0_growTimes 10 = .ok (.if_icmp .gt 141, 3) := by decide +kernel
theorem dX0_growTimes_13 : decode cX0_growTimes 13 = .ok (.iload 4, 2) := by decide +kernel
theorem dX0_growTimes_15 : decode cX0_growTimes 15 = .ok (.sipush 400, 3) := by decide +kernel
theorem dX0_growTimes_18 : decode cX0_growTimes 18 = .ok (.if_icmp .gt 133, 3) := by decide +kernel
theorem dX0_growTimes_21 : decode cX0_growTimes 21 = .ok (.iload 4, 2) := by decide +kernel
theorem dX0_growTimes_23 : decode cX0_growTimes 23 = .ok (.iload_n 1, 1) := by decide +kernel
theorem dX0_growTimes_24 : decode cX0_growTimes 24 = .ok (.isub, 1) := by decide +kernel
theorem dX0_growTimes_25 : decode cX0_growTimes 25 = .ok (.istore 5, 2) := by decide +kernel
theorem dX0_growTimes_27 : decode cX0_growTimes 27 = .ok (.iload 5, 2) := by decide +kernel
theorem dX0_growTimes_29 : decode cX0_growTimes 29 = .ok (.ifCond .lt 116, 3) := by decide +kernel
theorem dX0_growTimes_32 : decode cX0_growTimes 32 = .ok (.aload_n 0, 1) := by decide +kernel
theorem dX0_growTimes_33 : decode cX0_growTimes 33 = .ok (.getfield 15, 3) := by decide +kernel
theorem dX0_growTimes_36 : decode cX0_growTimes 36 = .ok (.iload 5, 2) := by decide +kernel
theorem dX0_growTimes_38 : decode cX0_growTimes 38 = .ok (.iaload, 1) := by decide +kernel
theorem dX0_growTimes_39 : decode cX0_growTimes 39 = .ok (.iconst (-1), 1) := by decide +kernel
theorem dX0_growTimes_40 : decode cX0_growTimes 40 = .ok (.if_icmp .ne 6, 3) := by decide +kernel
theorem dX0_growTimes_43 : decode cX0_growTimes 43 = .ok (.goto 102, 3) := by decide +kernel
theorem dX0_growTimes_46 : decode cX0_growTimes 46 = .ok (.aload_n 0, 1) := by decide +kernel
theorem dX0_growTimes_47 : decode cX0_growTimes 47 = .ok (.getfield 15, 3) := by decide +kernel
theorem dX0_growTimes_50 : decode cX0_growTimes 50 = .ok (.iload 5, 2) := by decide +kernel
theorem dX0_growTimes_52 : decode cX0_growTimes 52 = .ok (.iaload, 1) := by decide +kernel
theorem dX0_growTimes_53 : decode cX0_growTimes 53 = .ok (.iload_n 2, 1) := by decide +kernel
theorem dX0_growTimes_54 : decode cX0_growTimes 54 = .ok (.iadd, 1) := by decide +kernel
theorem dX0_growTimes_55 : decode cX0_growTimes 55 = .ok (.istore 6, 2) := by decide +kernel
theorem dX0_growTimes_57 : decode cX0_growTimes 57 = .ok (.aload_n 0, 1) := by decide +kernel
theorem dX0_growTimes_58 : decode cX0_growTimes 58 = .ok (.getfield 18, 3) := by decide +kernel
theorem dX0_growTimes_61 : decode cX0_growTimes 61 = .ok (.iload 5, 2) := by decide +kernel
theorem dX0_growTimes_63 : decode cX0_growTimes 63 = .ok (.iaload, 1) := by decide +kernel
theorem dX0_growTimes_64 : decode cX0_growTimes 64 = .ok (.iconst 1, 1) := by decide +kernel
theorem dX0_growTimes_65 : decode cX0_growTimes 65 = .ok (.iadd, 1) := by decide +kernel
theorem dX0_growTimes_66 : decode cX0_growTimes 66 = .ok (.istore 7, 2) := by decide +kernel
theorem dX0_growTimes_68 : decode cX0_growTimes 68 = .ok (.aload_n 0, 1) := by decide +kernel
theorem dX0_growTimes_69 : decode cX0_growTimes 69 = .ok (.getfield 15, 3) := by decide +kernel
theorem dX0_growTimes_72 : decode cX0_growTimes 72 = .ok (.iload 4, 2) := by decide +kernel
theorem dX0_growTimes_74 : decode cX0_growTimes 74 = .ok (.iaload, 1) := by decide +kernel
theorem dX0_growTimes_75 : decode cX0_growTimes 75 = .ok (.iconst (-1), 1) := by decide +kernel
theorem dX0_growTimes_76 : decode cX0_growTimes 76 = .ok (.if_icmp .eq 15, 3) := by decide +kernel
theorem dX0_growTimes_79 : decode cX0_growTimes 79 = .ok (.iload 6, 2) := by decide +kernel
theorem dX0_growTimes_81 : decode cX0_growTimes 81 = .ok (.aload_n 0, 1) := by decide +kernel
theorem dX0_growTimes_82 : decode cX0_growTimes 82 = .ok (.getfield 15, 3) := by decide +kernel
theorem dX0_growTimes_85 : decode cX0_growTimes 85 = .ok (.iload 4, 2) := by decide +kernel
theorem dX0_growTimes_87 : decode cX0_growTimes 87 = .ok (.iaload, 1) := by decide +kernel
theorem dX0_growTimes_88 : decode cX0_growTimes 88 = .ok (.if_icmp .ge 7, 3) := by decide +kernel
theorem dX0_growTimes_91 : decode cX0_growTimes 91 = .ok (.iconst 1, 1) := by decide +kernel
theorem dX0_growTimes_92 : decode cX0_growTimes 92 = .ok (.goto 4, 3) := by decide +kernel
theorem dX0_growTimes_95 : decode cX0_growTimes 95 = .ok (.iconst 0, 1) := by decide +kernel
theorem dX0_growTimes_96 : decode cX0_growTimes 96 = .ok (.istore 8, 2) := by decide +kernel
theorem dX0_growTimes_98 : decode cX0_growTimes 98 = .ok (.iload 8, 2) := by decide +kernel
theorem dX0_growTimes_100 : decode cX0_growTimes 100 = .ok (.ifCond .ne 27, 3) := by decide +kernel
theorem dX0_growTimes_103 : decode cX0_growTimes 103 = .ok (.iload 6, 2) := by decide +kernel
theorem dX0_growTimes_105 : decode cX0_growTimes 105 = .ok (.aload_n 0, 1) := by decide +kernel
theorem dX0_growTimes_106 : decode cX0_growTimes 106 = .ok (.getfield 15, 3) := by decide +kernel
theorem dX0_growTimes_109 : decode cX0_growTimes 109 = .ok (.iload 4, 2) := by decide +kernel
theorem dX0_growTimes_111 : decode cX0_growTimes 111 = .ok (.iaload, 1) := by decide +kernel
theorem dX0_growTimes_112 : decode cX0_growTimes 112 = .ok (.if_icmp .ne 33, 3) := by decide +kernel
theorem dX0_growTimes_115 : decode cX0_growTimes 115 = .ok (.iload 7, 2) := by decide +kernel
theorem dX0_growTimes_117 : decode cX0_growTimes 117 = .ok (.aload_n 0, 1) := by decide +kernel
theorem dX0_growTimes_118 : decode cX0_growTimes 118 = .ok (.getfield 18, 3) := by decide +kernel
theorem dX0_growTimes_121 : decode cX0_growTimes 121 = .ok (.iload 4, 2) := by decide +kernel
theorem dX0_growTimes_123 : decode cX0_growTimes 123 = .ok (.iaload, 1) := by decide +kernel
theorem dX0_growTimes_124 : decode cX0_growTimes 124 = .ok (.if_icmp .ge 21, 3) := by decide +kernel
theorem dX0_growTimes_127 : decode cX0_growTimes 127 = .ok (.aload_n 0, 1) := by decide +kernel
theorem dX0_growTimes_128 : decode cX0_growTimes 128 = .ok (.getfield 15, 3) := by decide +kernel
theorem dX0_growTimes_131 : decode cX0_growTimes 131 = .ok (.iload 4, 2) := by decide +kernel
theorem dX0_growTimes_133 : decode cX0_growTimes 133 = .ok (.iload 6, 2) := by decide +kernel
theorem dX0_growTimes_135 : decode cX0_growTimes 135 = .ok (.iastore, 1) := by decide +kernel
theorem dX0_growTimes_136 : decode cX0_growTimes 136 = .ok (.aload_n 0, 1) := by decide +kernel
theorem dX0_growTimes_137 : decode cX0_growTimes 137 = .ok (.getfield 18, 3) := by decide +kernel
theorem dX0_growTimes_140 : decode cX0_growTimes 140 = .ok (.iload 4, 2) := by decide +kernel
theorem dX0_growTimes_142 : decode cX0_growTimes 142 = .ok (.iload 7, 2) := by decide +kernel
theorem dX0_growTimes_144 : decode cX0_growTimes 144 = .ok (.iastore, 1) := by decide +kernel
theorem dX0_growTimes_145 : decode cX0_growTimes 145 = .ok (.iinc 4 1, 3) := by decide +kernel
theorem dX0_growTimes_148 : decode cX0_growTimes 148 = .ok (.goto (-141), 3) := by decide +kernel
theorem dX0_growTimes_151 : decode cX0_growTimes 151 = .ok (.return_, 1) := by decide +kernel
set_option maxHeartbeats 4000000 in
set_option maxRecDepth 100000 in
theorem K_X0_growTimes (l : Launch) (D : va_G) (xc : Nat) (xs : Nat) (xp : Nat) (xl : Nat) (ch_s : Nat) (ch_t : Nat) (ch_f : Nat) (ch_p : Nat) (cI : ClassId) (t0 : Nat → Int32) (f0 : Nat → Int32) (f : Nat) (U : Nat) (hf : f + 1 ≤ U) (hU : U ≤ 400) (h0 : ∀ j, j ≤ U → t0 j = sp_lt f j ∧ f0 j = sp_fw f j) (sz : Nat) : Kv l yX0_growTimes wsX0_growTimes 1 40 0 0 D [.ref xc, .int (nI (f + 1)), .int 32, .int (nI U)] [(xc, .inr (0, [.ref xs, .ref xp, .ref xl, .ref ch_s, .ref ch_t, .ref ch_f, .ref ch_p, .int 0])), (ch_t, .inl (cI, 401, .inl t0)), (ch_f, .inl (cI, 401, .inl f0))] [(cI, .int)] sz (fun (u : (Nat → Int32) × (Nat → Int32)) => ∀ j, j ≤ U → u.1 j = sp_lt (f + 1) j ∧ u.2 j = sp_fw (f + 1) j) (fun (u : (Nat → Int32) × (Nat → Int32)) => [(xc, .inr (0, [.ref xs, .ref xp, .ref xl, .ref ch_s, .ref ch_t, .ref ch_f, .ref ch_p, .int 0])), (ch_t, .inl (cI, 401, .inl u.1)), (ch_f, .inl (cI, 401, .inl u.2))]) (fun (_ : (Nat → Int32) × (Nat → Int32)) => [(cI, .int)]) := by
  unfold Kv
  refine g_ofW (cc := cX0_growTimes) (lv := [(0, .ref xc), (1, .int (nI (f + 1))), (2, .int 32), (3, .int (nI U))]) (by decide) rfl (Nat.le_of_ble_eq_true rfl) rfl ?_
  intro p e s m args below meth c A Q hA hQ F hr hnm
  have hts := F.2.2.2.2.1
  have w_0 : (Cond.methodLink RX0 108 Lib.Math.max.name).before args s = true := hts _ (List.mem_of_getElem? (i := 1) rfl)
  have w_1 : (Cond.static Lib.Math.max.name).before args s = true := hts _ (List.mem_of_getElem? (i := 2) rfl)
  have w_2 : (Cond.initialized "java/lang/Math").before args s = true := hts _ (List.mem_of_getElem? (i := 3) rfl)
  have w_3 : (Cond.code Lib.Math.max.name Lib.Math.max.code 2 (some .int)).before args s = true := hts _ (List.mem_of_getElem? (i := 4) rfl)
  have w_4 : (Cond.fieldLink RX0 15 "QuietCut$Chooser" "leastTime" "[I").before args s = true := hts _ (List.mem_of_getElem? (i := 5) rfl)
  have i_X0 : ∀ w ∈ u_ws RX0 TX0 8, w ∈ wsX0_growTimes := fun _ h => List.mem_cons_of_mem _ (List.mem_append_right _ h)
  have w_5 : (Cond.fieldLink RX0 18 "QuietCut$Chooser" "fewest" "[I").before args s = true := hts _ (List.mem_of_getElem? (i := 6) rfl)
  refine g_iconst F 1 dX0_growTimes_0 (by decide) ?_
  refine g_iload_n F 1 dX0_growTimes_1 rfl rfl ?_
  refine g_mmax F w_0 w_1 w_2 w_3 (Nat.le_of_ble_eq_true rfl) (Nat.le_of_ble_eq_true rfl) (Nat.le_of_ble_eq_true rfl) (Nat.le_of_ble_eq_true rfl) dX0_growTimes_2 ?_
  refine g_fold (nI (f + 1)) (by rcases Nat.eq_zero_or_pos f with h | h; { subst h; rfl }; exact if_pos (nI_lt (a := 1) (b := f + 1) (by omega) (by omega))) ?_
  refine g_istore F [(4, .int (nI (f + 1))), (0, .ref xc), (1, .int (nI (f + 1))), (2, .int 32), (3, .int (nI U))] dX0_growTimes_5 (by decide) rfl ?_
  refine g_locals [(0, .ref xc), (1, .int (nI (f + 1))), (2, .int 32), (3, .int (nI U)), (4, .int (nI (f + 1)))] [1, 2, 3, 4, 0] rfl ?_
  have loop_7 : ∀ (fuel : Nat) (w : Nat) (hT : Nat → Int32) (hF : Nat → Int32), U + 1 - w < fuel → (w ≤ U + 1) → (f + 1 ≤ w) → (sp_gr U f w hT hF) → gG p l e (gR 1 0 0 40) s m args below meth c D A 9 Q 0 0 [(xc, .inr (0, [.ref xs, .ref xp, .ref xl, .ref ch_s, .ref ch_t, .ref ch_f, .ref ch_p, .int 0])), (ch_t, .inl (cI, 401, .inl hT)), (ch_f, .inl (cI, 401, .inl hF))] [(cI, .int)] [(0, .ref xc), (1, .int (nI (f + 1))), (2, .int 32), (3, .int (nI U)), (4, .int (nI w))] 7 [] := by
    intro fuel_7
    induction fuel_7 with
    | zero => intro w hT hF hm; exact absurd hm (Nat.not_lt_zero _)
    | succ fuel_7 ih_7 =>
      intro w hT hF hm7 hw0 hw1 hgr
      refine g_iload F 4 dX0_growTimes_7 rfl ?_
      refine g_iload_n F 3 dX0_growTimes_9 rfl rfl ?_
      refine g_icmp_gt F 151 dX0_growTimes_10 (by decide) (fun c_10 => ?_) (fun c_10 => ?_)
      · exact g_vret F hA hQ hr (hT, hF) (fun j hj => by have hw9 : U < w := by { rcases Nat.lt_or_ge U w with h | h; exact h; exact absurd c_10 (nI_nlt (a := U) (b := w) h (by omega)) }; have h9 := hgr j hj; rw [if_pos (by omega), if_pos (by omega)] at h9; exact h9) [0, 1, 2] [0] rfl (by decide) rfl rfl dX0_growTimes_151
      · have hw : w ≤ U := by rcases Nat.lt_or_ge U w with h | h; exact absurd (nI_lt h (by omega)) c_10; exact h
        refine g_iload F 4 dX0_growTimes_13 rfl ?_
        refine g_sipush F 400 dX0_growTimes_15 (by decide) ?_
        refine g_icmp_gt F 151 dX0_growTimes_18 (by decide) (fun h9 => absurd h9 (nI_nlt (a := 400) (b := w) (by omega) (by omega))) (fun c_18 => ?_)
        refine g_iload F 4 dX0_growTimes_21 rfl ?_
        refine g_iload_n F 1 dX0_growTimes_23 rfl rfl ?_
        refine g_isub F dX0_growTimes_24 ?_
        refine g_fold (nI (w - (f + 1))) (pk_sub hw1) ?_
        refine g_istore F [(5, .int (nI (w - (f + 1)))), (0, .ref xc), (1, .int (nI (f + 1))), (2, .int 32), (3, .int (nI U)), (4, .int (nI w))] dX0_growTimes_25 (by decide) rfl ?_
        refine g_iload F 0 dX0_growTimes_27 rfl ?_
        refine g_if_lt F 145 dX0_growTimes_29 (by decide) (fun h9 => absurd h9 (nI_pos (by omega))) (fun c_29 => ?_)
        refine g_aload_n F 1 dX0_growTimes_32 rfl rfl ?_
        refine g_get (C := RX0) (T := TX0) (N := 8) (v := .ref ch_t) F i_X0 0 rfl rfl 4 (by decide) w_4 rfl rfl dX0_growTimes_33 ?_
        refine g_iload F 0 dX0_growTimes_36 rfl ?_
        refine g_iald F 1 0 rfl rfl (vp_in_nI (by omega) (by decide)) dX0_growTimes_38 ?_
        refine g_fold (hT (w - (f + 1))) (by rw [nI_clamp (by omega)]) ?_
        refine g_fold (sp_lt (f + 1) (w - (f + 1))) ((hgr (w - (f + 1)) (by omega)).1.trans (if_pos (by omega))) ?_
        refine g_iconst F (-1) dX0_growTimes_39 (by decide) ?_
        refine g_icmp_ne F 46 dX0_growTimes_40 (by decide) (fun c_40 => ?_) (fun h9 => absurd h9 (sp_lt_n1 (by omega))) 
        refine g_aload_n F 1 dX0_growTimes_46 rfl rfl ?_
        refine g_get (C := RX0) (T := TX0) (N := 8) (v := .ref ch_t) F i_X0 0 rfl rfl 4 (by decide) w_4 rfl rfl dX0_growTimes_47 ?_
        refine g_iload F 0 dX0_growTimes_50 rfl ?_
        refine g_iald F 1 0 rfl rfl (vp_in_nI (by omega) (by decide)) dX0_growTimes_52 ?_
        refine g_fold (hT (w - (f + 1))) (by rw [nI_clamp (by omega)]) ?_
        refine g_fold (sp_lt (f + 1) (w - (f + 1))) ((hgr (w - (f + 1)) (by omega)).1.trans (if_pos (by omega))) ?_
        refine g_iload_n F 3 dX0_growTimes_53 rfl rfl ?_
        refine g_iadd F dX0_growTimes_54 ?_
        refine g_fold (sp_lt (f + 1) w) (sp_lt_s hw1) ?_
        refine g_istore F [(6, .int (sp_lt (f + 1) w)), (5, .int (nI (w - (f + 1)))), (0, .ref xc), (1, .int (nI (f + 1))), (2, .int 32), (3, .int (nI U)), (4, .int (nI w))] dX0_growTimes_55 (by decide) rfl ?_
        refine g_aload_n F 2 dX0_growTimes_57 rfl rfl ?_
        refine g_get (C := RX0) (T := TX0) (N := 8) (v := .ref ch_f) F i_X0 0 rfl rfl 5 (by decide) w_5 rfl rfl dX0_growTimes_58 ?_
        refine g_iload F 1 dX0_growTimes_61 rfl ?_
        refine g_iald F 2 0 rfl rfl (vp_in_nI (by omega) (by decide)) dX0_growTimes_63 ?_
        refine g_fold (hF (w - (f + 1))) (by rw [nI_clamp (by omega)]) ?_
        refine g_fold (sp_fw (f + 1) (w - (f + 1))) ((hgr (w - (f + 1)) (by omega)).2.trans (if_pos (by omega))) ?_
        refine g_iconst F 1 dX0_growTimes_64 (by decide) ?_
        refine g_iadd F dX0_growTimes_65 ?_
        refine g_fold (sp_fw (f + 1) w) (sp_fw_s hw1) ?_
        refine g_istore F [(7, .int (sp_fw (f + 1) w)), (6, .int (sp_lt (f + 1) w)), (5, .int (nI (w - (f + 1)))), (0, .ref xc), (1, .int (nI (f + 1))), (2, .int 32), (3, .int (nI U)), (4, .int (nI w))] dX0_growTimes_66 (by decide) rfl ?_
        refine g_aload_n F 3 dX0_growTimes_68 rfl rfl ?_
        refine g_get (C := RX0) (T := TX0) (N := 8) (v := .ref ch_t) F i_X0 0 rfl rfl 4 (by decide) w_4 rfl rfl dX0_growTimes_69 ?_
        refine g_iload F 7 dX0_growTimes_72 rfl ?_
        refine g_iald F 1 0 rfl rfl (vp_in_nI (by omega) (by decide)) dX0_growTimes_74 ?_
        refine g_fold (hT w) (by rw [nI_clamp (by omega)]) ?_
        refine g_fold (sp_lt f w) ((hgr w hw).1.trans (if_neg (Nat.lt_irrefl _))) ?_
        refine g_iconst F (-1) dX0_growTimes_75 (by decide) ?_
        refine g_icmp_eq F 91 dX0_growTimes_76 (by decide) (fun c_76 => ?_) (fun c_76 => ?_)
        · refine g_iconst F 1 dX0_growTimes_91 (by decide) ?_
          refine g_goto F 96 dX0_growTimes_92 (by decide) ?_
          refine g_istore F [(8, .int 1), (7, .int (sp_fw (f + 1) w)), (6, .int (sp_lt (f + 1) w)), (5, .int (nI (w - (f + 1)))), (0, .ref xc), (1, .int (nI (f + 1))), (2, .int 32), (3, .int (nI U)), (4, .int (nI w))] dX0_growTimes_96 (by decide) rfl ?_
          refine g_iload F 0 dX0_growTimes_98 rfl ?_
          refine g_if_ne F 127 dX0_growTimes_100 (by decide) (fun c_100 => ?_) (fun h9 => absurd h9 (by decide)) 
          refine g_aload_n F 4 dX0_growTimes_127 rfl rfl ?_
          refine g_get (C := RX0) (T := TX0) (N := 8) (v := .ref ch_t) F i_X0 0 rfl rfl 4 (by decide) w_4 rfl rfl dX0_growTimes_128 ?_
          refine g_iload F 8 dX0_growTimes_131 rfl ?_
          refine g_iload F 2 dX0_growTimes_133 rfl ?_
          refine g_iast F 1 0 rfl rfl (vp_in_nI (by omega) (by decide)) [(xc, .inr (0, [.ref xs, .ref xp, .ref xl, .ref ch_s, .ref ch_t, .ref ch_f, .ref ch_p, .int 0])), (ch_t, .inl (cI, 401, .inl (upd hT w (sp_lt (f + 1) w)))), (ch_f, .inl (cI, 401, .inl hF))] (by rw [nI_clamp (by omega)]; rfl) dX0_growTimes_135 ?_
          refine g_aload_n F 4 dX0_growTimes_136 rfl rfl ?_
          refine g_get (C := RX0) (T := TX0) (N := 8) (v := .ref ch_f) F i_X0 0 rfl rfl 5 (by decide) w_5 rfl rfl dX0_growTimes_137 ?_
          refine g_iload F 8 dX0_growTimes_140 rfl ?_
          refine g_iload F 1 dX0_growTimes_142 rfl ?_
          refine g_iast F 2 0 rfl rfl (vp_in_nI (by omega) (by decide)) [(xc, .inr (0, [.ref xs, .ref xp, .ref xl, .ref ch_s, .ref ch_t, .ref ch_f, .ref ch_p, .int 0])), (ch_t, .inl (cI, 401, .inl (upd hT w (sp_lt (f + 1) w)))), (ch_f, .inl (cI, 401, .inl (upd hF w (sp_fw (f + 1) w))))] (by rw [nI_clamp (by omega)]; rfl) dX0_growTimes_144 ?_
          have hgr2 := sp_gr1 hgr
          refine g_iinc F (j := 8) (nI (w + 1)) [(4, .int (nI (w + 1))), (8, .int 1), (7, .int (sp_fw (f + 1) w)), (6, .int (sp_lt (f + 1) w)), (5, .int (nI (w - (f + 1)))), (0, .ref xc), (1, .int (nI (f + 1))), (2, .int 32), (3, .int (nI U))] dX0_growTimes_145 rfl (nI_1 w) (by decide) rfl ?_
          refine g_goto F 7 dX0_growTimes_148 (by decide) ?_
          refine g_locals [(0, .ref xc), (1, .int (nI (f + 1))), (2, .int 32), (3, .int (nI U)), (4, .int (nI (w + 1)))] [5, 6, 7, 8, 0] rfl ?_
          exact ih_7 (w + 1) (upd hT w (sp_lt (f + 1) w)) (upd hF w (sp_fw (f + 1) w)) (by omega) (by omega) (by omega) (hgr2)
        · refine g_iload F 1 dX0_growTimes_79 rfl ?_
          refine g_aload_n F 3 dX0_growTimes_81 rfl rfl ?_
          refine g_get (C := RX0) (T := TX0) (N := 8) (v := .ref ch_t) F i_X0 0 rfl rfl 4 (by decide) w_4 rfl rfl dX0_growTimes_82 ?_
          refine g_iload F 7 dX0_growTimes_85 rfl ?_
          refine g_iald F 1 0 rfl rfl (vp_in_nI (by omega) (by decide)) dX0_growTimes_87 ?_
          refine g_fold (hT w) (by rw [nI_clamp (by omega)]) ?_
          refine g_fold (sp_lt f w) ((hgr w hw).1.trans (if_neg (Nat.lt_irrefl _))) ?_
          refine g_icmp_ge F 95 dX0_growTimes_88 (by decide) (fun c_88 => ?_) (fun c_88 => ?_)
          · refine g_iconst F 0 dX0_growTimes_95 (by decide) ?_
            refine g_istore F [(8, .int 0), (7, .int (sp_fw (f + 1) w)), (6, .int (sp_lt (f + 1) w)), (5, .int (nI (w - (f + 1)))), (0, .ref xc), (1, .int (nI (f + 1))), (2, .int 32), (3, .int (nI U)), (4, .int (nI w))] dX0_growTimes_96 (by decide) rfl ?_
            refine g_iload F 0 dX0_growTimes_98 rfl ?_
            refine g_if_ne F 127 dX0_growTimes_100 (by decide) (fun h9 => absurd (by decide) h9) (fun c_100 => ?_)
            refine g_iload F 2 dX0_growTimes_103 rfl ?_
            refine g_aload_n F 4 dX0_growTimes_105 rfl rfl ?_
            refine g_get (C := RX0) (T := TX0) (N := 8) (v := .ref ch_t) F i_X0 0 rfl rfl 4 (by decide) w_4 rfl rfl dX0_growTimes_106 ?_
            refine g_iload F 8 dX0_growTimes_109 rfl ?_
            refine g_iald F 1 0 rfl rfl (vp_in_nI (by omega) (by decide)) dX0_growTimes_111 ?_
            refine g_fold (hT w) (by rw [nI_clamp (by omega)]) ?_
            refine g_fold (sp_lt f w) ((hgr w hw).1.trans (if_neg (Nat.lt_irrefl _))) ?_
            refine g_icmp_ne F 145 dX0_growTimes_112 (by decide) (fun c_112 => ?_) (fun c_112 => ?_)
            · have hgr2 := sp_gr2 hgr hw1 (by omega) c_76 (Int32.not_lt.mpr c_88)
              refine g_iinc F (j := 8) (nI (w + 1)) [(4, .int (nI (w + 1))), (8, .int 0), (7, .int (sp_fw (f + 1) w)), (6, .int (sp_lt (f + 1) w)), (5, .int (nI (w - (f + 1)))), (0, .ref xc), (1, .int (nI (f + 1))), (2, .int 32), (3, .int (nI U))] dX0_growTimes_145 rfl (nI_1 w) (by decide) rfl ?_
              refine g_goto F 7 dX0_growTimes_148 (by decide) ?_
              refine g_locals [(0, .ref xc), (1, .int (nI (f + 1))), (2, .int 32), (3, .int (nI U)), (4, .int (nI (w + 1)))] [5, 6, 7, 8, 0] rfl ?_
              exact ih_7 (w + 1) hT hF (by omega) (by omega) (by omega) (hgr2)
            · refine g_iload F 1 dX0_growTimes_115 rfl ?_
              refine g_aload_n F 4 dX0_growTimes_117 rfl rfl ?_
              refine g_get (C := RX0) (T := TX0) (N := 8) (v := .ref ch_f) F i_X0 0 rfl rfl 5 (by decide) w_5 rfl rfl dX0_growTimes_118 ?_
              refine g_iload F 8 dX0_growTimes_121 rfl ?_
              refine g_iald F 2 0 rfl rfl (vp_in_nI (by omega) (by decide)) dX0_growTimes_123 ?_
              refine g_fold (hF w) (by rw [nI_clamp (by omega)]) ?_
              refine g_fold (sp_fw f w) ((hgr w hw).2.trans (if_neg (Nat.lt_irrefl _))) ?_
              refine g_icmp_ge F 145 dX0_growTimes_124 (by decide) (fun c_124 => ?_) (fun c_124 => ?_)
              · have hgr2 := sp_gr2 hgr hw1 (by omega) c_76 (Int32.not_lt.mpr c_88)
                refine g_iinc F (j := 8) (nI (w + 1)) [(4, .int (nI (w + 1))), (8, .int 0), (7, .int (sp_fw (f + 1) w)), (6, .int (sp_lt (f + 1) w)), (5, .int (nI (w - (f + 1)))), (0, .ref xc), (1, .int (nI (f + 1))), (2, .int 32), (3, .int (nI U))] dX0_growTimes_145 rfl (nI_1 w) (by decide) rfl ?_
                refine g_goto F 7 dX0_growTimes_148 (by decide) ?_
                refine g_locals [(0, .ref xc), (1, .int (nI (f + 1))), (2, .int 32), (3, .int (nI U)), (4, .int (nI (w + 1)))] [5, 6, 7, 8, 0] rfl ?_
                exact ih_7 (w + 1) hT hF (by omega) (by omega) (by omega) (hgr2)
              · refine g_aload_n F 4 dX0_growTimes_127 rfl rfl ?_
                refine g_get (C := RX0) (T := TX0) (N := 8) (v := .ref ch_t) F i_X0 0 rfl rfl 4 (by decide) w_4 rfl rfl dX0_growTimes_128 ?_
                refine g_iload F 8 dX0_growTimes_131 rfl ?_
                refine g_iload F 2 dX0_growTimes_133 rfl ?_
                refine g_iast F 1 0 rfl rfl (vp_in_nI (by omega) (by decide)) [(xc, .inr (0, [.ref xs, .ref xp, .ref xl, .ref ch_s, .ref ch_t, .ref ch_f, .ref ch_p, .int 0])), (ch_t, .inl (cI, 401, .inl (upd hT w (sp_lt (f + 1) w)))), (ch_f, .inl (cI, 401, .inl hF))] (by rw [nI_clamp (by omega)]; rfl) dX0_growTimes_135 ?_
                refine g_aload_n F 4 dX0_growTimes_136 rfl rfl ?_
                refine g_get (C := RX0) (T := TX0) (N := 8) (v := .ref ch_f) F i_X0 0 rfl rfl 5 (by decide) w_5 rfl rfl dX0_growTimes_137 ?_
                refine g_iload F 8 dX0_growTimes_140 rfl ?_
                refine g_iload F 1 dX0_growTimes_142 rfl ?_
                refine g_iast F 2 0 rfl rfl (vp_in_nI (by omega) (by decide)) [(xc, .inr (0, [.ref xs, .ref xp, .ref xl, .ref ch_s, .ref ch_t, .ref ch_f, .ref ch_p, .int 0])), (ch_t, .inl (cI, 401, .inl (upd hT w (sp_lt (f + 1) w)))), (ch_f, .inl (cI, 401, .inl (upd hF w (sp_fw (f + 1) w))))] (by rw [nI_clamp (by omega)]; rfl) dX0_growTimes_144 ?_
                have hgr2 := sp_gr1 hgr
                refine g_iinc F (j := 8) (nI (w + 1)) [(4, .int (nI (w + 1))), (8, .int 0), (7, .int (sp_fw (f + 1) w)), (6, .int (sp_lt (f + 1) w)), (5, .int (nI (w - (f + 1)))), (0, .ref xc), (1, .int (nI (f + 1))), (2, .int 32), (3, .int (nI U))] dX0_growTimes_145 rfl (nI_1 w) (by decide) rfl ?_
                refine g_goto F 7 dX0_growTimes_148 (by decide) ?_
                refine g_locals [(0, .ref xc), (1, .int (nI (f + 1))), (2, .int 32), (3, .int (nI U)), (4, .int (nI (w + 1)))] [5, 6, 7, 8, 0] rfl ?_
                exact ih_7 (w + 1) (upd hT w (sp_lt (f + 1) w)) (upd hF w (sp_fw (f + 1) w)) (by omega) (by omega) (by omega) (hgr2)
          · refine g_iconst F 1 dX0_growTimes_91 (by decide) ?_
            refine g_goto F 96 dX0_growTimes_92 (by decide) ?_
            refine g_istore F [(8, .int 1), (7, .int (sp_fw (f + 1) w)), (6, .int (sp_lt (f + 1) w)), (5, .int (nI (w - (f + 1)))), (0, .ref xc), (1, .int (nI (f + 1))), (2, .int 32), (3, .int (nI U)), (4, .int (nI w))] dX0_growTimes_96 (by decide) rfl ?_
            refine g_iload F 0 dX0_growTimes_98 rfl ?_
            refine g_if_ne F 127 dX0_growTimes_100 (by decide) (fun c_100 => ?_) (fun h9 => absurd h9 (by decide)) 
            refine g_aload_n F 4 dX0_growTimes_127 rfl rfl ?_
            refine g_get (C := RX0) (T := TX0) (N := 8) (v := .ref ch_t) F i_X0 0 rfl rfl 4 (by decide) w_4 rfl rfl dX0_growTimes_128 ?_
            refine g_iload F 8 dX0_growTimes_131 rfl ?_
            refine g_iload F 2 dX0_growTimes_133 rfl ?_
            refine g_iast F 1 0 rfl rfl (vp_in_nI (by omega) (by decide)) [(xc, .inr (0, [.ref xs, .ref xp, .ref xl, .ref ch_s, .ref ch_t, .ref ch_f, .ref ch_p, .int 0])), (ch_t, .inl (cI, 401, .inl (upd hT w (sp_lt (f + 1) w)))), (ch_f, .inl (cI, 401, .inl hF))] (by rw [nI_clamp (by omega)]; rfl) dX0_growTimes_135 ?_
            refine g_aload_n F 4 dX0_growTimes_136 rfl rfl ?_
            refine g_get (C := RX0) (T := TX0) (N := 8) (v := .ref ch_f) F i_X0 0 rfl rfl 5 (by decide) w_5 rfl rfl dX0_growTimes_137 ?_
            refine g_iload F 8 dX0_growTimes_140 rfl ?_
            refine g_iload F 1 dX0_growTimes_142 rfl ?_
            refine g_iast F 2 0 rfl rfl (vp_in_nI (by omega) (by decide)) [(xc, .inr (0, [.ref xs, .ref xp, .ref xl, .ref ch_s, .ref ch_t, .ref ch_f, .ref ch_p, .int 0])), (ch_t, .inl (cI, 401, .inl (upd hT w (sp_lt (f + 1) w)))), (ch_f, .inl (cI, 401, .inl (upd hF w (sp_fw (f + 1) w))))] (by rw [nI_clamp (by omega)]; rfl) dX0_growTimes_144 ?_
            have hgr2 := sp_gr1 hgr
            refine g_iinc F (j := 8) (nI (w + 1)) [(4, .int (nI (w + 1))), (8, .int 1), (7, .int (sp_fw (f + 1) w)), (6, .int (sp_lt (f + 1) w)), (5, .int (nI (w - (f + 1)))), (0, .ref xc), (1, .int (nI (f + 1))), (2, .int 32), (3, .int (nI U))] dX0_growTimes_145 rfl (nI_1 w) (by decide) rfl ?_
            refine g_goto F 7 dX0_growTimes_148 (by decide) ?_
            refine g_locals [(0, .ref xc), (1, .int (nI (f + 1))), (2, .int 32), (3, .int (nI U)), (4, .int (nI (w + 1)))] [5, 6, 7, 8, 0] rfl ?_
            exact ih_7 (w + 1) (upd hT w (sp_lt (f + 1) w)) (upd hF w (sp_fw (f + 1) w)) (by omega) (by omega) (by omega) (hgr2)
  exact loop_7 (_ + 1) (f + 1) t0 f0 (Nat.lt_succ_self _) (by omega) (Nat.le_refl _) (sp_gr0 h0)

theorem sp_fl1 {k : Nat} {hT hF : Nat → Int32} (h : ∀ j, j ≤ k → hT j = sp_lt 0 j ∧ hF j = sp_fw 0 j) : ∀ j, j ≤ k + 1 → upd hT (k + 1) (-1) j = sp_lt 0 j ∧ upd hF (k + 1) 0 j = sp_fw 0 j := by
  intro j hj
  by_cases e : j = k + 1
  · subst e
    rw [pk_us, pk_us]
    exact ⟨rfl, rfl⟩
  · rw [pk_un e, pk_un e]
    exact h j (by omega)
theorem sp_fl0 {t0 f0 : Nat → Int32} : ∀ j, j ≤ 0 → upd t0 0 0 j = sp_lt 0 j ∧ upd f0 0 0 j = sp_fw 0 j := fun j hj => by
  obtain rfl : j = 0 := by omega
  rw [pk_us, pk_us]
  exact ⟨rfl, rfl⟩

theorem dX0_findLeastTimes_0 : decode cX0_findLeastTimes 0 = .ok (.aload_n 0, 1) := by decide +kernel
theorem dX0_findLeastTimes_1 : decode cX0_findLeastTimes 1 = .ok (.getfield 15, 3) := by decide +kernel
theorem dX0_findLeastTimes_4 : decode cX0_findLeastTimes 4 = .ok (.iconst 0, 1) := by decide +kernel
theorem dX0_findLeastTimes_5 : decode cX0_findLeastTimes 5 = .ok (.iconst 0, 1) := by decide +kernel
theorem dX0_findLeastTimes_6 : decode cX0_findLeastTimes 6 = .ok (.iastore, 1) := by decide +kernel
theorem dX0_findLeastTimes_7 : decode cX0_findLeastTimes 7 = .ok (.aload_n 0, 1) := by decide +kernel
theorem dX0_findLeastTimes_8 : decode cX0_findLeastTimes 8 = .ok (.getfield 18, 3) := by decide +kernel
theorem dX0_findLeastTimes_11 : decode cX0_findLeastTimes 11 = .ok (.iconst 0, 1) := by decide +kernel
theorem dX0_findLeastTimes_12 : decode cX0_findLeastTimes 12 = .ok (.iconst 0, 1) := by decide +kernel
theorem dX0_findLeastTimes_13 : decode cX0_findLeastTimes 13 = .ok (.iastore, 1) := by decide +kernel
theorem dX0_findLeastTimes_14 : decode cX0_findLeastTimes 14 = .ok (.iconst 1, 1) := by decide +kernel
theorem dX0_findLeastTimes_15 : decode cX0_findLeastTimes 15 = .ok (.istore_n 2, 1) := by decide +kernel
theorem dX0_findLeastTimes_16 : decode cX0_findLeastTimes 16 = .ok (.iload_n 2, 1) := by decide +kernel
theorem dX0_findLeastTimes_17 : decode cX0_findLeastTimes 17 = .ok (.iload_n 1, 1) := by decide +kernel
theorem dX0_findLeastTimes_18 : decode cX0_findLeastTimes 18 = .ok (.if_icmp .gt 30, 3) := by decide +kernel
theorem dX0_findLeastTimes_21 : decode cX0_findLeastTimes 21 = .ok (.iload_n 2, 1) := by decide +kernel
theorem dX0_findLeastTimes_22 : decode cX0_findLeastTimes 22 = .ok (.sipush 400, 3) := by decide +kernel
theorem dX0_findLeastTimes_25 : decode cX0_findLeastTimes 25 = .ok (.if_icmp .gt 23, 3) := by decide +kernel
theorem dX0_findLeastTimes_28 : decode cX0_findLeastTimes 28 = .ok (.aload_n 0, 1) := by decide +kernel
theorem dX0_findLeastTimes_29 : decode cX0_findLeastTimes 29 = .ok (.getfield 15, 3) := by decide +kernel
theorem dX0_findLeastTimes_32 : decode cX0_findLeastTimes 32 = .ok (.iload_n 2, 1) := by decide +kernel
theorem dX0_findLeastTimes_33 : decode cX0_findLeastTimes 33 = .ok (.iconst (-1), 1) := by decide +kernel
theorem dX0_findLeastTimes_34 : decode cX0_findLeastTimes 34 = .ok (.iastore, 1) := by decide +kernel
theorem dX0_findLeastTimes_35 : decode cX0_findLeastTimes 35 = .ok (.aload_n 0, 1) := by decide +kernel
theorem dX0_findLeastTimes_36 : decode cX0_findLeastTimes 36 = .ok (.getfield 18, 3) := by decide +kernel
theorem dX0_findLeastTimes_39 : decode cX0_findLeastTimes 39 = .ok (.iload_n 2, 1) := by decide +kernel
theorem dX0_findLeastTimes_40 : decode cX0_findLeastTimes 40 = .ok (.iconst 0, 1) := by decide +kernel
theorem dX0_findLeastTimes_41 : decode cX0_findLeastTimes 41 = .ok (.iastore, 1) := by decide +kernel
theorem dX0_findLeastTimes_42 : decode cX0_findLeastTimes 42 = .ok (.iinc 2 1, 3) := by decide +kernel
theorem dX0_findLeastTimes_45 : decode cX0_findLeastTimes 45 = .ok (.goto (-29), 3) := by decide +kernel
theorem dX0_findLeastTimes_48 : decode cX0_findLeastTimes 48 = .ok (.iconst 1, 1) := by decide +kernel
theorem dX0_findLeastTimes_49 : decode cX0_findLeastTimes 49 = .ok (.istore_n 2, 1) := by decide +kernel
theorem dX0_findLeastTimes_50 : decode cX0_findLeastTimes 50 = .ok (.iload_n 2, 1) := by decide +kernel
theorem dX0_findLeastTimes_51 : decode cX0_findLeastTimes 51 = .ok (.bipush 20, 2) := by decide +kernel
theorem dX0_findLeastTimes_53 : decode cX0_findLeastTimes 53 = .ok (.if_icmp .gt 37, 3) := by decide +kernel
theorem dX0_findLeastTimes_56 : decode cX0_findLeastTimes 56 = .ok (.aload_n 0, 1) := by decide +kernel
theorem dX0_findLeastTimes_57 : decode cX0_findLeastTimes 57 = .ok (.getfield 9, 3) := by decide +kernel
theorem dX0_findLeastTimes_60 : decode cX0_findLeastTimes 60 = .ok (.iload_n 2, 1) := by decide +kernel
theorem dX0_findLeastTimes_61 : decode cX0_findLeastTimes 61 = .ok (.iaload, 1) := by decide +kernel
theorem dX0_findLeastTimes_62 : decode cX0_findLeastTimes 62 = .ok (.ifCond .eq 22, 3) := by decide +kernel
theorem dX0_findLeastTimes_65 : decode cX0_findLeastTimes 65 = .ok (.aload_n 0, 1) := by decide +kernel
theorem dX0_findLeastTimes_66 : decode cX0_findLeastTimes 66 = .ok (.iload_n 2, 1) := by decide +kernel
theorem dX0_findLeastTimes_67 : decode cX0_findLeastTimes 67 = .ok (.aload_n 0, 1) := by decide +kernel
theorem dX0_findLeastTimes_68 : decode cX0_findLeastTimes 68 = .ok (.getfield 24, 3) := by decide +kernel
theorem dX0_findLeastTimes_71 : decode cX0_findLeastTimes 71 = .ok (.aload_n 0, 1) := by decide +kernel
theorem dX0_findLeastTimes_72 : decode cX0_findLeastTimes 72 = .ok (.getfield 9, 3) := by decide +kernel
theorem dX0_findLeastTimes_75 : decode cX0_findLeastTimes 75 = .ok (.iload_n 2, 1) := by decide +kernel
theorem dX0_findLeastTimes_76 : decode cX0_findLeastTimes 76 = .ok (.iaload, 1) := by decide +kernel
theorem dX0_findLeastTimes_77 : decode cX0_findLeastTimes 77 = .ok (.invokevirtual 64, 3) := by decide +kernel
theorem dX0_findLeastTimes_80 : decode cX0_findLeastTimes 80 = .ok (.iload_n 1, 1) := by decide +kernel
theorem dX0_findLeastTimes_81 : decode cX0_findLeastTimes 81 = .ok (.invokevirtual 104, 3) := by decide +kernel
theorem dX0_findLeastTimes_84 : decode cX0_findLeastTimes 84 = .ok (.iinc 2 1, 3) := by decide +kernel
theorem dX0_findLeastTimes_87 : decode cX0_findLeastTimes 87 = .ok (.goto (-37), 3) := by decide +kernel
theorem dX0_findLeastTimes_90 : decode cX0_findLeastTimes 90 = .ok (.return_, 1) := by decide +kernel
set_option maxRecDepth 20000 in
theorem ggX0_findLeastTimes_X0_growTimes : GoodIn wsX0_findLeastTimes wsX0_growTimes := goodIn_r _ [23, 24, 25, 26, 27, 1, 2, 28, 29, 30, 31, 32, 33, 34, 35] rfl (by decide +kernel)
set_option maxRecDepth 20000 in
theorem gX0_findLeastTimes_X0_growTimes : GoodIn wsX0_findLeastTimes (wsV RX0 104 RX0 yX0_growTimes wsX0_growTimes) := goodIn_app (goodIn_of _ (by decide +kernel)) ggX0_findLeastTimes_X0_growTimes
set_option maxRecDepth 20000 in
theorem ggX0_findLeastTimes_X7_passTime : GoodIn wsX0_findLeastTimes wsX7_passTime := goodIn_r _ [9, 10, 11, 12, 13, 8, 14, 15, 16, 17, 18, 36, 37, 38, 39] rfl (by decide +kernel)
set_option maxRecDepth 20000 in
theorem gX0_findLeastTimes_X7_passTime : GoodIn wsX0_findLeastTimes (wsV RX0 64 RX7 yX7_passTime wsX7_passTime) := goodIn_app (goodIn_of _ (by decide +kernel)) ggX0_findLeastTimes_X7_passTime
set_option maxHeartbeats 4000000 in
set_option maxRecDepth 100000 in
theorem K_X0_findLeastTimes (l : Launch) (D : va_G) (xc : Nat) (xs : Nat) (xp : Nat) (xl : Nat) (ch_s : Nat) (ch_t : Nat) (ch_f : Nat) (ch_p : Nat) (n : Nat) (fo : Nat) (wa : Nat) (we : Nat) (cI : ClassId) (t0 : Nat → Int32) (f0 : Nat → Int32) (U : Nat) (M : Nat) (hU1 : 1 ≤ U) (hU : U ≤ 400) (hMe : M = min U 20) (sz : Nat) : Kv l yX0_findLeastTimes wsX0_findLeastTimes 3 86 0 0 D [.ref xc, .int (nI U)] [(xc, .inr (0, [.ref xs, .ref xp, .ref xl, .ref ch_s, .ref ch_t, .ref ch_f, .ref ch_p, .int 0])), (xs, .inr (6, [.ref n, .ref fo, .ref wa, .ref we])), (n, .inl (cI, 36, .inl g_nums)), (ch_s, .inl (cI, 21, .inl (sp_so M))), (ch_t, .inl (cI, 401, .inl t0)), (ch_f, .inl (cI, 401, .inl f0))] [(cI, .int)] sz (fun (u : (Nat → Int32) × (Nat → Int32)) => ∀ j, j ≤ U → u.1 j = sp_lt M j ∧ u.2 j = sp_fw M j) (fun (u : (Nat → Int32) × (Nat → Int32)) => [(xc, .inr (0, [.ref xs, .ref xp, .ref xl, .ref ch_s, .ref ch_t, .ref ch_f, .ref ch_p, .int 0])), (xs, .inr (6, [.ref n, .ref fo, .ref wa, .ref we])), (n, .inl (cI, 36, .inl g_nums)), (ch_s, .inl (cI, 21, .inl (sp_so M))), (ch_t, .inl (cI, 401, .inl u.1)), (ch_f, .inl (cI, 401, .inl u.2))]) (fun (_ : (Nat → Int32) × (Nat → Int32)) => [(cI, .int)]) := by
  unfold Kv
  refine g_ofW (cc := cX0_findLeastTimes) (lv := [(0, .ref xc), (1, .int (nI U))]) (by decide) rfl (Nat.le_of_ble_eq_true rfl) rfl ?_
  intro p e s m args below meth c A Q hA hQ F hr hnm
  have hts := F.2.2.2.2.1
  have w_0 : (Cond.fieldLink RX0 15 "QuietCut$Chooser" "leastTime" "[I").before args s = true := hts _ (List.mem_of_getElem? (i := 1) rfl)
  have i_X0 : ∀ w ∈ u_ws RX0 TX0 8, w ∈ wsX0_findLeastTimes := fun _ h => List.mem_cons_of_mem _ (List.mem_append_left _ (List.mem_append_right _ h))
  have w_1 : (Cond.fieldLink RX0 18 "QuietCut$Chooser" "fewest" "[I").before args s = true := hts _ (List.mem_of_getElem? (i := 2) rfl)
  have w_2 : (Cond.fieldLink RX0 9 "QuietCut$Chooser" "speedOf" "[I").before args s = true := hts _ (List.mem_of_getElem? (i := 3) rfl)
  have w_3 : (Cond.fieldLink RX0 24 "QuietCut$Chooser" "shop" "LQuietCut$Shop;").before args s = true := hts _ (List.mem_of_getElem? (i := 4) rfl)
  refine g_aload_n F 0 dX0_findLeastTimes_0 rfl rfl ?_
  refine g_get (C := RX0) (T := TX0) (N := 8) (v := .ref ch_t) F i_X0 0 rfl rfl 4 (by decide) w_0 rfl rfl dX0_findLeastTimes_1 ?_
  refine g_iconst F 0 dX0_findLeastTimes_4 (by decide) ?_
  refine g_iconst F 0 dX0_findLeastTimes_5 (by decide) ?_
  refine g_iast F 4 0 rfl rfl (by unfold vp_in; decide) [(xc, .inr (0, [.ref xs, .ref xp, .ref xl, .ref ch_s, .ref ch_t, .ref ch_f, .ref ch_p, .int 0])), (xs, .inr (6, [.ref n, .ref fo, .ref wa, .ref we])), (n, .inl (cI, 36, .inl g_nums)), (ch_s, .inl (cI, 21, .inl (sp_so M))), (ch_t, .inl (cI, 401, .inl (upd t0 0 0))), (ch_f, .inl (cI, 401, .inl f0))] (rfl) dX0_findLeastTimes_6 ?_
  refine g_aload_n F 0 dX0_findLeastTimes_7 rfl rfl ?_
  refine g_get (C := RX0) (T := TX0) (N := 8) (v := .ref ch_f) F i_X0 0 rfl rfl 5 (by decide) w_1 rfl rfl dX0_findLeastTimes_8 ?_
  refine g_iconst F 0 dX0_findLeastTimes_11 (by decide) ?_
  refine g_iconst F 0 dX0_findLeastTimes_12 (by decide) ?_
  refine g_iast F 5 0 rfl rfl (by unfold vp_in; decide) [(xc, .inr (0, [.ref xs, .ref xp, .ref xl, .ref ch_s, .ref ch_t, .ref ch_f, .ref ch_p, .int 0])), (xs, .inr (6, [.ref n, .ref fo, .ref wa, .ref we])), (n, .inl (cI, 36, .inl g_nums)), (ch_s, .inl (cI, 21, .inl (sp_so M))), (ch_t, .inl (cI, 401, .inl (upd t0 0 0))), (ch_f, .inl (cI, 401, .inl (upd f0 0 0)))] (rfl) dX0_findLeastTimes_13 ?_
  refine g_iconst F 1 dX0_findLeastTimes_14 (by decide) ?_
  refine g_istore_n F [(2, .int 1), (0, .ref xc), (1, .int (nI U))] dX0_findLeastTimes_15 rfl (by decide) rfl ?_
  refine g_locals [(0, .ref xc), (1, .int (nI U)), (2, .int 1)] [1, 2, 0] rfl ?_
  have loop_16 : ∀ (fuel : Nat) (k : Nat) (hT : Nat → Int32) (hF : Nat → Int32), U - k < fuel → (k ≤ U) → (∀ j, j ≤ k → hT j = sp_lt 0 j ∧ hF j = sp_fw 0 j) → gG p l e (gR 3 0 0 86) s m args below meth c D A 3 Q 0 0 [(xc, .inr (0, [.ref xs, .ref xp, .ref xl, .ref ch_s, .ref ch_t, .ref ch_f, .ref ch_p, .int 0])), (xs, .inr (6, [.ref n, .ref fo, .ref wa, .ref we])), (n, .inl (cI, 36, .inl g_nums)), (ch_s, .inl (cI, 21, .inl (sp_so M))), (ch_t, .inl (cI, 401, .inl hT)), (ch_f, .inl (cI, 401, .inl hF))] [(cI, .int)] [(0, .ref xc), (1, .int (nI U)), (2, .int (nI (k + 1)))] 16 [] := by
    intro fuel_16
    induction fuel_16 with
    | zero => intro k hT hF hm; exact absurd hm (Nat.not_lt_zero _)
    | succ fuel_16 ih_16 =>
      intro k hT hF hm16 hk0 hp
      refine g_iload_n F 2 dX0_findLeastTimes_16 rfl rfl ?_
      refine g_iload_n F 1 dX0_findLeastTimes_17 rfl rfl ?_
      refine g_icmp_gt F 48 dX0_findLeastTimes_18 (by decide) (fun c_18 => ?_) (fun c_18 => ?_)
      · have hkU : U ≤ k := by { rcases Nat.lt_or_ge k U with h | h; exact absurd c_18 (nI_nlt (a := U) (b := k + 1) (by omega) (by omega)); omega }
        refine g_iconst F 1 dX0_findLeastTimes_48 (by decide) ?_
        refine g_istore_n F [(2, .int 1), (0, .ref xc), (1, .int (nI U))] dX0_findLeastTimes_49 rfl (by decide) rfl ?_
        refine g_locals [(0, .ref xc), (1, .int (nI U)), (2, .int 1)] [1, 2, 0] rfl ?_
        have loop_50 : ∀ (fuel : Nat) (k : Nat) (uT : Nat → Int32) (uF : Nat → Int32), 20 - k < fuel → (k ≤ 20) → (∀ j, j ≤ U → uT j = sp_lt (min k M) j ∧ uF j = sp_fw (min k M) j) → gG p l e (gR 3 0 0 86) s m args below meth c D A 3 Q 0 0 [(xc, .inr (0, [.ref xs, .ref xp, .ref xl, .ref ch_s, .ref ch_t, .ref ch_f, .ref ch_p, .int 0])), (xs, .inr (6, [.ref n, .ref fo, .ref wa, .ref we])), (n, .inl (cI, 36, .inl g_nums)), (ch_s, .inl (cI, 21, .inl (sp_so M))), (ch_t, .inl (cI, 401, .inl uT)), (ch_f, .inl (cI, 401, .inl uF))] [(cI, .int)] [(0, .ref xc), (1, .int (nI U)), (2, .int (nI (k + 1)))] 50 [] := by
          intro fuel_50
          induction fuel_50 with
          | zero => intro k uT uF hm; exact absurd hm (Nat.not_lt_zero _)
          | succ fuel_50 ih_50 =>
            intro k uT uF hm50 hk1 hq
            refine g_iload_n F 2 dX0_findLeastTimes_50 rfl rfl ?_
            refine g_bipush F 20 dX0_findLeastTimes_51 (by decide) ?_
            refine g_icmp_gt F 90 dX0_findLeastTimes_53 (by decide) (fun c_53 => ?_) (fun c_53 => ?_)
            · exact g_vret F hA hQ hr (uT, uF) (fun j hj => by have hk9 : k = 20 := by { rcases Nat.lt_or_ge k 20 with h | h; exact absurd c_53 (nI_nlt (a := 20) (b := k + 1) (by omega) (by omega)); omega }; have h9 := hq j hj; rw [show min k M = M by omega] at h9; exact h9) [0, 1, 2, 3, 4, 5] [0] rfl (by decide) rfl rfl dX0_findLeastTimes_90
            · have hk2 : k + 1 ≤ 20 := by rcases Nat.lt_or_ge k 20 with h | h; omega; exact absurd (nI_lt (a := 20) (b := k + 1) (by omega) (by omega)) c_53
              refine g_aload_n F 0 dX0_findLeastTimes_56 rfl rfl ?_
              refine g_get (C := RX0) (T := TX0) (N := 8) (v := .ref ch_s) F i_X0 0 rfl rfl 3 (by decide) w_2 rfl rfl dX0_findLeastTimes_57 ?_
              refine g_iload_n F 2 dX0_findLeastTimes_60 rfl rfl ?_
              refine g_iald F 3 0 rfl rfl (vp_in_nI (by omega) (by decide)) dX0_findLeastTimes_61 ?_
              refine g_fold ((sp_so M) (k + 1)) (by rw [nI_clamp (by omega)]) ?_
              refine g_if_eq F 84 dX0_findLeastTimes_62 (by decide) (fun c_62 => ?_) (fun c_62 => ?_)
              · have hM9 : min (k + 1) M = min k M := by have := sp_so_z (by omega) c_62; omega
                have hT2 : ∀ j, j ≤ U → uT j = sp_lt (min (k + 1) M) j ∧ uF j = sp_fw (min (k + 1) M) j := by rw [hM9]; exact hq
                refine g_iinc F (j := 2) (nI (k + 1 + 1)) [(2, .int (nI (k + 1 + 1))), (0, .ref xc), (1, .int (nI U))] dX0_findLeastTimes_84 rfl (nI_1 (k + 1)) (by decide) rfl ?_
                refine g_goto F 50 dX0_findLeastTimes_87 (by decide) ?_
                refine g_locals [(0, .ref xc), (1, .int (nI U)), (2, .int (nI (k + 1 + 1)))] [1, 2, 0] rfl ?_
                exact ih_50 (k + 1) uT uF (by omega) (hk2) (hT2)
              · have hkM := sp_so_n (M := M) (j := k + 1) (by omega) c_62
                refine g_aload_n F 0 dX0_findLeastTimes_65 rfl rfl ?_
                refine g_iload_n F 2 dX0_findLeastTimes_66 rfl rfl ?_
                refine g_aload_n F 0 dX0_findLeastTimes_67 rfl rfl ?_
                refine g_get (C := RX0) (T := TX0) (N := 8) (v := .ref xs) F i_X0 0 rfl rfl 0 (by decide) w_3 rfl rfl dX0_findLeastTimes_68 ?_
                refine g_aload_n F 0 dX0_findLeastTimes_71 rfl rfl ?_
                refine g_get (C := RX0) (T := TX0) (N := 8) (v := .ref ch_s) F i_X0 0 rfl rfl 3 (by decide) w_2 rfl rfl dX0_findLeastTimes_72 ?_
                refine g_iload_n F 2 dX0_findLeastTimes_75 rfl rfl ?_
                refine g_iald F 3 0 rfl rfl (vp_in_nI (by omega) (by decide)) dX0_findLeastTimes_76 ?_
                refine g_fold ((sp_so M) (k + 1)) (by rw [nI_clamp (by omega)]) ?_
                refine g_fold 1 (sp_so1 (by omega) hkM) ?_
                refine g_callVi (k := 0) (n := 0) (b := xs) (As := [.int 1]) (st := [.int (nI (k + 1)), .ref xc]) (wc := [(xs, .inr (6, [.ref n, .ref fo, .ref wa, .ref we])), (n, .inl (cI, 36, .inl g_nums))]) (wr := [(xc, .inr (0, [.ref xs, .ref xp, .ref xl, .ref ch_s, .ref ch_t, .ref ch_f, .ref ch_p, .int 0])), (ch_s, .inl (cI, 21, .inl (sp_so M))), (ch_t, .inl (cI, 401, .inl uT)), (ch_f, .inl (cI, 401, .inl uF))]) F [1, 2] [0, 3, 4, 5] [0] rfl rfl (by decide) rfl (by decide) (by decide) rfl (fun sz => K_X7_passTime l D xs n fo wa we cI 1  sz) (cwV 1 hts gX0_findLeastTimes_X7_passTime rfl rfl rfl (by decide +kernel) ⟨Nat.le_of_ble_eq_true rfl, Nat.le_of_ble_eq_true rfl⟩) rfl 0 rfl rfl (Nat.le_of_ble_eq_true rfl) ⟨Nat.le_of_ble_eq_true rfl, Nat.le_of_ble_eq_true rfl⟩ dX0_findLeastTimes_77 (fun r_1 _ hw_2 => ?_)
                have hw_2 : r_1 = (32 * (1 : Int32)) := hw_2
                have e_r_1 := hw_2
                show gG p l e (gR 3 0 0 86) s m args below meth c D A 3 Q 0 0 [(xc, .inr (0, [.ref xs, .ref xp, .ref xl, .ref ch_s, .ref ch_t, .ref ch_f, .ref ch_p, .int 0])), (ch_s, .inl (cI, 21, .inl (sp_so M))), (ch_t, .inl (cI, 401, .inl uT)), (ch_f, .inl (cI, 401, .inl uF)), (xs, .inr (6, [.ref n, .ref fo, .ref wa, .ref we])), (n, .inl (cI, 36, .inl g_nums))] [(cI, .int)] [(0, .ref xc), (1, .int (nI U)), (2, .int (nI (k + 1)))] 80 [.int r_1, .int (nI (k + 1)), .ref xc]
                refine g_fold (32 * (1 : Int32)) e_r_1 ?_
                refine g_fold 32 (by decide) ?_
                refine g_iload_n F 1 dX0_findLeastTimes_80 rfl rfl ?_
                refine g_callVv (k := 0) (n := 0) (b := xc) (As := [.int (nI (k + 1)), .int 32, .int (nI U)]) (st := []) (wc := [(xc, .inr (0, [.ref xs, .ref xp, .ref xl, .ref ch_s, .ref ch_t, .ref ch_f, .ref ch_p, .int 0])), (ch_t, .inl (cI, 401, .inl uT)), (ch_f, .inl (cI, 401, .inl uF))]) (wr := [(ch_s, .inl (cI, 21, .inl (sp_so M))), (xs, .inr (6, [.ref n, .ref fo, .ref wa, .ref we])), (n, .inl (cI, 36, .inl g_nums))]) F [0, 2, 3] [1, 4, 5] [0] rfl rfl (by decide) rfl (by decide) (by decide) rfl (fun sz => K_X0_growTimes l D xc xs xp xl ch_s ch_t ch_f ch_p cI uT uF k U (by omega) (hU) (by rw [show k = min k M by omega]; exact hq) sz) (cwV 3 hts gX0_findLeastTimes_X0_growTimes rfl rfl rfl (by decide +kernel) ⟨Nat.le_of_ble_eq_true rfl, Nat.le_of_ble_eq_true rfl⟩) rfl 0 rfl rfl (Nat.le_of_ble_eq_true rfl) ⟨Nat.le_of_ble_eq_true rfl, Nat.le_of_ble_eq_true rfl⟩ dX0_findLeastTimes_81 (fun u_5 hw_7 => ?_)
                obtain ⟨gT9, gF9⟩ := u_5
                have hw_7 : ∀ j, j ≤ U → gT9 j = sp_lt (k + 1) j ∧ gF9 j = sp_fw (k + 1) j := hw_7
                have hgt := hw_7
                show gG p l e (gR 3 0 0 86) s m args below meth c D A 3 Q 0 0 [(ch_s, .inl (cI, 21, .inl (sp_so M))), (xs, .inr (6, [.ref n, .ref fo, .ref wa, .ref we])), (n, .inl (cI, 36, .inl g_nums)), (xc, .inr (0, [.ref xs, .ref xp, .ref xl, .ref ch_s, .ref ch_t, .ref ch_f, .ref ch_p, .int 0])), (ch_t, .inl (cI, 401, .inl gT9)), (ch_f, .inl (cI, 401, .inl gF9))] [(cI, .int)] [(0, .ref xc), (1, .int (nI U)), (2, .int (nI (k + 1)))] 84 []
                have hT2 : ∀ j, j ≤ U → gT9 j = sp_lt (min (k + 1) M) j ∧ gF9 j = sp_fw (min (k + 1) M) j := by rw [show min (k + 1) M = k + 1 by omega]; exact hgt
                refine g_iinc F (j := 2) (nI (k + 1 + 1)) [(2, .int (nI (k + 1 + 1))), (0, .ref xc), (1, .int (nI U))] dX0_findLeastTimes_84 rfl (nI_1 (k + 1)) (by decide) rfl ?_
                refine g_goto F 50 dX0_findLeastTimes_87 (by decide) ?_
                refine g_locals [(0, .ref xc), (1, .int (nI U)), (2, .int (nI (k + 1 + 1)))] [1, 2, 0] rfl ?_
                refine g_world [(xc, .inr (0, [.ref xs, .ref xp, .ref xl, .ref ch_s, .ref ch_t, .ref ch_f, .ref ch_p, .int 0])), (xs, .inr (6, [.ref n, .ref fo, .ref wa, .ref we])), (n, .inl (cI, 36, .inl g_nums)), (ch_s, .inl (cI, 21, .inl (sp_so M))), (ch_t, .inl (cI, 401, .inl gT9)), (ch_f, .inl (cI, 401, .inl gF9))] [3, 1, 2, 0, 4, 5] rfl (by decide) rfl ?_
                exact ih_50 (k + 1) gT9 gF9 (by omega) (hk2) (hT2)
        exact loop_50 (_ + 1) 0 hT hF (Nat.lt_succ_self _) (Nat.zero_le _) (by rw [Nat.zero_min]; exact fun j hj => hp j (by omega))
      · have hk : k + 1 ≤ U := by rcases Nat.lt_or_ge k U with h | h; omega; exact absurd (nI_lt (a := U) (b := k + 1) (by omega) (by omega)) c_18
        refine g_iload_n F 2 dX0_findLeastTimes_21 rfl rfl ?_
        refine g_sipush F 400 dX0_findLeastTimes_22 (by decide) ?_
        refine g_icmp_gt F 48 dX0_findLeastTimes_25 (by decide) (fun h9 => absurd h9 (nI_nlt (a := 400) (b := k + 1) (by omega) (by omega))) (fun c_25 => ?_)
        refine g_aload_n F 0 dX0_findLeastTimes_28 rfl rfl ?_
        refine g_get (C := RX0) (T := TX0) (N := 8) (v := .ref ch_t) F i_X0 0 rfl rfl 4 (by decide) w_0 rfl rfl dX0_findLeastTimes_29 ?_
        refine g_iload_n F 2 dX0_findLeastTimes_32 rfl rfl ?_
        refine g_iconst F (-1) dX0_findLeastTimes_33 (by decide) ?_
        refine g_iast F 4 0 rfl rfl (vp_in_nI (by omega) (by decide)) [(xc, .inr (0, [.ref xs, .ref xp, .ref xl, .ref ch_s, .ref ch_t, .ref ch_f, .ref ch_p, .int 0])), (xs, .inr (6, [.ref n, .ref fo, .ref wa, .ref we])), (n, .inl (cI, 36, .inl g_nums)), (ch_s, .inl (cI, 21, .inl (sp_so M))), (ch_t, .inl (cI, 401, .inl (upd hT (k + 1) (-1)))), (ch_f, .inl (cI, 401, .inl hF))] (by rw [nI_clamp (by omega)]; rfl) dX0_findLeastTimes_34 ?_
        refine g_aload_n F 0 dX0_findLeastTimes_35 rfl rfl ?_
        refine g_get (C := RX0) (T := TX0) (N := 8) (v := .ref ch_f) F i_X0 0 rfl rfl 5 (by decide) w_1 rfl rfl dX0_findLeastTimes_36 ?_
        refine g_iload_n F 2 dX0_findLeastTimes_39 rfl rfl ?_
        refine g_iconst F 0 dX0_findLeastTimes_40 (by decide) ?_
        refine g_iast F 5 0 rfl rfl (vp_in_nI (by omega) (by decide)) [(xc, .inr (0, [.ref xs, .ref xp, .ref xl, .ref ch_s, .ref ch_t, .ref ch_f, .ref ch_p, .int 0])), (xs, .inr (6, [.ref n, .ref fo, .ref wa, .ref we])), (n, .inl (cI, 36, .inl g_nums)), (ch_s, .inl (cI, 21, .inl (sp_so M))), (ch_t, .inl (cI, 401, .inl (upd hT (k + 1) (-1)))), (ch_f, .inl (cI, 401, .inl (upd hF (k + 1) 0)))] (by rw [nI_clamp (by omega)]; rfl) dX0_findLeastTimes_41 ?_
        refine g_iinc F (j := 2) (nI (k + 1 + 1)) [(2, .int (nI (k + 1 + 1))), (0, .ref xc), (1, .int (nI U))] dX0_findLeastTimes_42 rfl (nI_1 (k + 1)) (by decide) rfl ?_
        refine g_goto F 16 dX0_findLeastTimes_45 (by decide) ?_
        refine g_locals [(0, .ref xc), (1, .int (nI U)), (2, .int (nI (k + 1 + 1)))] [1, 2, 0] rfl ?_
        exact ih_16 (k + 1) (upd hT (k + 1) (-1)) (upd hF (k + 1) 0) (by omega) (hk) (sp_fl1 hp)
  exact loop_16 (_ + 1) 0 (upd t0 0 0) (upd f0 0 0) (Nat.lt_succ_self _) (Nat.zero_le _) (sp_fl0)
