def sp_dq (s : Nat) : Int32 := sp_dp (sp_q (nI s)) 0 20
/-- the best speed among the first k, and its depth -/
def sp_bs (dq : Nat → Int32) : Nat → Int32 × Int32
  | 0 => (-1, 0)
  | k + 1 => if dq (k + 1) = -1 ∨ (¬ (sp_bs dq k).1 = -1 ∧ dq (k + 1) * (32 * (sp_bs dq k).1) ≤ (sp_bs dq k).2 * (32 * nI (k + 1))) then sp_bs dq k else (nI (k + 1), dq (k + 1))
theorem sp_dp_or (q : Int32 → Bool) (fl : Int32) : ∀ n : Nat, sp_dp q fl n = -1 ∨ ∃ j, 1 ≤ j ∧ j ≤ n ∧ sp_dp q fl n = nI j
  | 0 => Or.inl rfl
  | n + 1 => by
    unfold sp_dp
    by_cases h1 : nI (n + 1) ≤ fl
    · rw [if_pos h1]; exact Or.inl rfl
    · rw [if_neg h1]
      by_cases h2 : q (nI (n + 1)) = true
      · rw [if_pos h2]; exact Or.inr ⟨n + 1, by omega, Nat.le_refl _, rfl⟩
      · rw [if_neg h2]
        rcases sp_dp_or q fl n with h | ⟨j, a, b, e⟩
        · exact Or.inl h
        · exact Or.inr ⟨j, a, by omega, e⟩
theorem sp_dp_fl (q : Int32 → Bool) {fl : Nat} (hf : fl < 2 ^ 31) : ∀ n : Nat, n ≤ 20 → sp_dp q (nI fl) n = if sp_dp q 0 n ≤ nI fl then -1 else sp_dp q 0 n
  | 0, _ => by
    show (-1 : Int32) = if (-1 : Int32) ≤ nI fl then -1 else -1
    split <;> rfl
  | n + 1, hn => by
    have ih := sp_dp_fl q hf n (by omega)
    have h0 : ¬ nI (n + 1) ≤ 0 := nI_nle (by omega) (by omega)
    by_cases h1 : nI (n + 1) ≤ nI fl
    · rw [sp_dp3 h1]
      by_cases h2 : q (nI (n + 1)) = true
      · rw [sp_dp2 h0 h2, if_pos h1]
      · rw [sp_dp1 h0 h2]
        rcases sp_dp_or q 0 n with h | ⟨j, a, b, e⟩
        · rw [h]; split <;> rfl
        · rw [e, if_pos (nI_le (by have := (nI_leI (by omega) hf).mp h1; omega) hf)]
    · by_cases h2 : q (nI (n + 1)) = true
      · rw [sp_dp2 h1 h2, sp_dp2 h0 h2, if_neg h1]
      · rw [sp_dp1 h1 h2, sp_dp1 h0 h2]
        exact ih
/-- what stands in the best of the first k -/
def sp_bok (s : Int32 × Int32) : Prop := (s.1 = -1 ∧ s.2 = 0) ∨ ∃ b f : Nat, 1 ≤ b ∧ b ≤ 9 ∧ f ≤ 20 ∧ s.1 = nI b ∧ s.2 = nI f
theorem sp_bs_ok (dq : Nat → Int32) (hd : ∀ s, dq s = -1 ∨ ∃ j, 1 ≤ j ∧ j ≤ 20 ∧ dq s = nI j) : ∀ k : Nat, k ≤ 9 → sp_bok (sp_bs dq k)
  | 0, _ => Or.inl ⟨rfl, rfl⟩
  | k + 1, hk => by
    unfold sp_bs
    split
    · exact sp_bs_ok dq hd k (by omega)
    · rename_i h
      rcases hd (k + 1) with e | ⟨j, a, b, e⟩
      · exact absurd (Or.inl e) h
      · exact Or.inr ⟨k + 1, j, by omega, hk, b, rfl, e⟩
theorem sp_dq_or (s : Nat) : sp_dq s = -1 ∨ ∃ j, 1 ≤ j ∧ j ≤ 20 ∧ sp_dq s = nI j := sp_dp_or _ _ 20
theorem nI_n1 {j : Nat} (h : j < 2 ^ 31) : ¬ nI j = -1 := fun q => nI_pos h (by rw [q]; decide)
/-- the class's way: a floor out of the best so far -/
theorem sp_bs_class {k : Nat} {s : Int32 × Int32} (hs : sp_bok s) (hk : k + 1 ≤ 9) : ∃ fl : Nat, fl < 2 ^ 31 ∧ (s.2 * (32 * nI (k + 1))) / (if s.1 = -1 then 1 else 32 * s.1) = nI fl ∧ ((if sp_dq (k + 1) ≤ nI fl then (-1 : Int32) else sp_dq (k + 1)) = -1 ↔ (sp_dq (k + 1) = -1 ∨ (¬ s.1 = -1 ∧ sp_dq (k + 1) * (32 * s.1) ≤ s.2 * (32 * nI (k + 1))))) := by
  rcases hs with ⟨e1, e2⟩ | ⟨b, f, b1, b9, f20, e1, e2⟩
  · refine ⟨0, by decide, ?_, ?_⟩
    · rw [e1, e2, if_pos rfl, Int32.zero_mul]; rfl
    · rcases sp_dq_or (k + 1) with e | ⟨j, a, b, e⟩
      · rw [e]; simp
      · rw [e, if_neg (show ¬ nI j ≤ nI 0 from nI_nle (n := j) (by omega) (by omega)), e1]
        simp [nI_n1 (j := j) (by omega)]
  · have hb := nI_n1 (j := b) (by omega)
    refine ⟨f * (32 * (k + 1)) / (32 * b), ?_, ?_, ?_⟩
    · have : f * (32 * (k + 1)) / (32 * b) ≤ f * (32 * (k + 1)) := Nat.div_le_self _ _
      have : f * (32 * (k + 1)) ≤ 20 * (32 * 9) := Nat.mul_le_mul f20 (by omega)
      omega
    · have : f * (32 * (k + 1)) ≤ 20 * (32 * 9) := Nat.mul_le_mul f20 (by omega)
      rw [e1, e2, if_neg hb, show (32 : Int32) = nI 32 from rfl, pk_mul, pk_mul, pk_mul, pk_div (by omega) (by omega) (by omega)]
    · have hm : f * (32 * (k + 1)) ≤ 20 * (32 * 9) := Nat.mul_le_mul f20 (by omega)
      rcases sp_dq_or (k + 1) with e | ⟨j, a, b2, e⟩
      · rw [e]; simp
      · have hj := nI_n1 (j := j) (by omega)
        have hfl : f * (32 * (k + 1)) / (32 * b) ≤ f * (32 * (k + 1)) := Nat.div_le_self _ _
        have hjb : j * (32 * b) ≤ 20 * (32 * 9) := Nat.mul_le_mul b2 (by omega)
        have key : nI j ≤ nI (f * (32 * (k + 1)) / (32 * b)) ↔ nI j * (32 * nI b) ≤ nI f * (32 * nI (k + 1)) := by
          rw [show (32 : Int32) = nI 32 from rfl, pk_mul, pk_mul, pk_mul, pk_mul, nI_leI (by omega) (by omega), nI_leI (by omega) (by omega)]
          exact Nat.le_div_iff_mul_le (by omega)
        rw [e, e1, e2, ← key]
        by_cases hc : nI j ≤ nI (f * (32 * (k + 1)) / (32 * b))
        · simp [hc, hb]
        · simp [hc, hj]

theorem dX7_passTime_0 : decode cX7_passTime 0 = .ok (.aload_n 0, 1) := by decide +kernel
theorem dX7_passTime_1 : decode cX7_passTime 1 = .ok (.getfield 11, 3) := by decide +kernel
theorem dX7_passTime_4 : decode cX7_passTime 4 = .ok (.iconst 0, 1) := by decide +kernel
theorem dX7_passTime_5 : decode cX7_passTime 5 = .ok (.iaload, 1) := by decide +kernel
theorem dX7_passTime_6 : decode cX7_passTime 6 = .ok (.aload_n 0, 1) := by decide +kernel
theorem dX7_passTime_7 : decode cX7_passTime 7 = .ok (.getfield 11, 3) := by decide +kernel
theorem dX7_passTime_10 : decode cX7_passTime 10 = .ok (.bipush 9, 2) := by decide +kernel
theorem dX7_passTime_12 : decode cX7_passTime 12 = .ok (.iaload, 1) := by decide +kernel
theorem dX7_passTime_13 : decode cX7_passTime 13 = .ok (.imul, 1) := by decide +kernel
theorem dX7_passTime_14 : decode cX7_passTime 14 = .ok (.istore_n 2, 1) := by decide +kernel
theorem dX7_passTime_15 : decode cX7_passTime 15 = .ok (.iload_n 2, 1) := by decide +kernel
theorem dX7_passTime_16 : decode cX7_passTime 16 = .ok (.iload_n 1, 1) := by decide +kernel
theorem dX7_passTime_17 : decode cX7_passTime 17 = .ok (.imul, 1) := by decide +kernel
theorem dX7_passTime_18 : decode cX7_passTime 18 = .ok (.istore_n 3, 1) := by decide +kernel
theorem dX7_passTime_19 : decode cX7_passTime 19 = .ok (.iconst 0, 1) := by decide +kernel
theorem dX7_passTime_20 : decode cX7_passTime 20 = .ok (.istore 4, 2) := by decide +kernel
theorem dX7_passTime_22 : decode cX7_passTime 22 = .ok (.iconst 0, 1) := by decide +kernel
theorem dX7_passTime_23 : decode cX7_passTime 23 = .ok (.istore 5, 2) := by decide +kernel
theorem dX7_passTime_25 : decode cX7_passTime 25 = .ok (.iload 5, 2) := by decide +kernel
theorem dX7_passTime_27 : decode cX7_passTime 27 = .ok (.iload_n 2, 1) := by decide +kernel
theorem dX7_passTime_28 : decode cX7_passTime 28 = .ok (.if_icmp .ge 26, 3) := by decide +kernel
theorem dX7_passTime_31 : decode cX7_passTime 31 = .ok (.iload_n 3, 1) := by decide +kernel
theorem dX7_passTime_32 : decode cX7_passTime 32 = .ok (.aload_n 0, 1) := by decide +kernel
theorem dX7_passTime_33 : decode cX7_passTime 33 = .ok (.iload 4, 2) := by decide +kernel
theorem dX7_passTime_35 : decode cX7_passTime 35 = .ok (.invokevirtual 56, 3) := by decide +kernel
theorem dX7_passTime_38 : decode cX7_passTime 38 = .ok (.iadd, 1) := by decide +kernel
theorem dX7_passTime_39 : decode cX7_passTime 39 = .ok (.istore_n 3, 1) := by decide +kernel
theorem dX7_passTime_40 : decode cX7_passTime 40 = .ok (.aload_n 0, 1) := by decide +kernel
theorem dX7_passTime_41 : decode cX7_passTime 41 = .ok (.iload 4, 2) := by decide +kernel
theorem dX7_passTime_43 : decode cX7_passTime 43 = .ok (.invokevirtual 60, 3) := by decide +kernel
theorem dX7_passTime_46 : decode cX7_passTime 46 = .ok (.istore 4, 2) := by decide +kernel
theorem dX7_passTime_48 : decode cX7_passTime 48 = .ok (.iinc 5 1, 3) := by decide +kernel
theorem dX7_passTime_51 : decode cX7_passTime 51 = .ok (.goto (-26), 3) := by decide +kernel
theorem dX7_passTime_54 : decode cX7_passTime 54 = .ok (.iload_n 3, 1) := by decide +kernel
theorem dX7_passTime_55 : decode cX7_passTime 55 = .ok (.ireturn, 1) := by decide +kernel
set_option maxRecDepth 20000 in
theorem ggX7_passTime_X7_swayAt : GoodIn wsX7_passTime wsX7_swayAt := goodIn_r _ [6, 1, 11, 12, 13, 14] rfl (by decide +kernel)
set_option maxRecDepth 20000 in
theorem gX7_passTime_X7_swayAt : GoodIn wsX7_passTime (wsV RX7 56 RX7 yX7_swayAt wsX7_swayAt) := goodIn_app (goodIn_of _ (by decide +kernel)) ggX7_passTime_X7_swayAt
set_option maxRecDepth 20000 in
theorem ggX7_passTime_X7_swayBehind : GoodIn wsX7_passTime wsX7_swayBehind := goodIn_r _ [10, 1, 11, 12, 13, 14] rfl (by decide +kernel)
set_option maxRecDepth 20000 in
theorem gX7_passTime_X7_swayBehind : GoodIn wsX7_passTime (wsV RX7 60 RX7 yX7_swayBehind wsX7_swayBehind) := goodIn_app (goodIn_of _ (by decide +kernel)) ggX7_passTime_X7_swayBehind
set_option maxHeartbeats 4000000 in
set_option maxRecDepth 100000 in
theorem K_X7_passTime (l : Launch) (D : va_G) (xs : Nat) (n : Nat) (fo : Nat) (wa : Nat) (we : Nat) (cI : ClassId) (sv : Int32) (sz : Nat) : Ki l yX7_passTime wsX7_passTime 2 61 0 0 D [.ref xs, .int sv] [(xs, .inr (6, [.ref n, .ref fo, .ref wa, .ref we])), (n, .inl (cI, 36, .inl g_nums))] [(cI, .int)] sz (fun (r : Int32) (_ : Unit) => r = (32 * sv)) (fun (_ : Unit) => [(xs, .inr (6, [.ref n, .ref fo, .ref wa, .ref we])), (n, .inl (cI, 36, .inl g_nums))]) (fun (_ : Unit) => [(cI, .int)]) := by
  unfold Ki
  refine g_ofW (cc := cX7_passTime) (lv := [(0, .ref xs), (1, .int sv)]) (by decide) rfl (Nat.le_of_ble_eq_true rfl) rfl ?_
  intro p e s m args below meth c A Q hA hQ F hr hnm
  have hts := F.2.2.2.2.1
  have w_0 : (Cond.fieldLink RX7 11 "QuietCut$Shop" "numbers" "[I").before args s = true := hts _ (List.mem_of_getElem? (i := 1) rfl)
  have i_X7 : ∀ w ∈ u_ws RX7 TX7 4, w ∈ wsX7_passTime := fun _ h => List.mem_cons_of_mem _ (List.mem_append_right _ h)
  refine g_aload_n F 0 dX7_passTime_0 rfl rfl ?_
  refine g_get (C := RX7) (T := TX7) (N := 4) (v := .ref n) F i_X7 0 rfl rfl 0 (by decide) w_0 rfl rfl dX7_passTime_1 ?_
  refine g_iconst F 0 dX7_passTime_4 (by decide) ?_
  refine g_iald F 1 0 rfl rfl (by unfold vp_in; decide) dX7_passTime_5 ?_
  refine g_fold 8 (by rfl) ?_
  refine g_aload_n F 0 dX7_passTime_6 rfl rfl ?_
  refine g_get (C := RX7) (T := TX7) (N := 4) (v := .ref n) F i_X7 0 rfl rfl 0 (by decide) w_0 rfl rfl dX7_passTime_7 ?_
  refine g_bipush F 9 dX7_passTime_10 (by decide) ?_
  refine g_iald F 1 0 rfl rfl (by unfold vp_in; decide) dX7_passTime_12 ?_
  refine g_fold 4 (by rfl) ?_
  refine g_imul F dX7_passTime_13 ?_
  refine g_fold 32 (by decide) ?_
  refine g_istore_n F [(2, .int 32), (0, .ref xs), (1, .int sv)] dX7_passTime_14 rfl (by decide) rfl ?_
  refine g_iload_n F 0 dX7_passTime_15 rfl rfl ?_
  refine g_iload_n F 2 dX7_passTime_16 rfl rfl ?_
  refine g_imul F dX7_passTime_17 ?_
  refine g_istore_n F [(3, .int (32 * sv)), (2, .int 32), (0, .ref xs), (1, .int sv)] dX7_passTime_18 rfl (by decide) rfl ?_
  refine g_iconst F 0 dX7_passTime_19 (by decide) ?_
  refine g_istore F [(4, .int 0), (3, .int (32 * sv)), (2, .int 32), (0, .ref xs), (1, .int sv)] dX7_passTime_20 (by decide) rfl ?_
  refine g_iconst F 0 dX7_passTime_22 (by decide) ?_
  refine g_istore F [(5, .int 0), (4, .int 0), (3, .int (32 * sv)), (2, .int 32), (0, .ref xs), (1, .int sv)] dX7_passTime_23 (by decide) rfl ?_
  refine g_iload F 0 dX7_passTime_25 rfl ?_
  refine g_iload_n F 3 dX7_passTime_27 rfl rfl ?_
  refine g_icmp_ge F 54 dX7_passTime_28 (by decide) (fun h9 => absurd h9 (by decide)) (fun c_28 => ?_)
  refine g_iload_n F 2 dX7_passTime_31 rfl rfl ?_
  refine g_aload_n F 4 dX7_passTime_32 rfl rfl ?_
  refine g_iload F 1 dX7_passTime_33 rfl ?_
  refine g_callVi (k := 0) (n := 0) (b := xs) (As := [.int 0]) (st := [.int (32 * sv)]) (wc := [(xs, .inr (6, [.ref n, .ref fo, .ref wa, .ref we])), (n, .inl (cI, 36, .inl g_nums))]) (wr := []) F [0, 1] [] [0] rfl rfl (by decide) rfl (by decide) (by decide) rfl (fun sz => K_X7_swayAt0 l D xs n fo wa we cI  sz) (cwV 1 hts gX7_passTime_X7_swayAt rfl rfl rfl (by decide +kernel) ⟨Nat.le_of_ble_eq_true rfl, Nat.le_of_ble_eq_true rfl⟩) rfl 0 rfl rfl (Nat.le_of_ble_eq_true rfl) ⟨Nat.le_of_ble_eq_true rfl, Nat.le_of_ble_eq_true rfl⟩ dX7_passTime_35 (fun r_1 _ hw_2 => ?_)
  have hw_2 : r_1 = 0 := hw_2
  have e_r_1 := hw_2
  show gG p l e (gR 2 0 0 61) s m args below meth c D A 6 Q 0 0 [(xs, .inr (6, [.ref n, .ref fo, .ref wa, .ref we])), (n, .inl (cI, 36, .inl g_nums))] [(cI, .int)] [(5, .int 0), (4, .int 0), (3, .int (32 * sv)), (2, .int 32), (0, .ref xs), (1, .int sv)] 38 [.int r_1, .int (32 * sv)]
  refine g_fold 0 e_r_1 ?_
  refine g_iadd F dX7_passTime_38 ?_
  refine g_fold (32 * sv) (by rw [Int32.add_zero]) ?_
  refine g_istore_n F [(3, .int (32 * sv)), (5, .int 0), (4, .int 0), (2, .int 32), (0, .ref xs), (1, .int sv)] dX7_passTime_39 rfl (by decide) rfl ?_
  refine g_aload_n F 4 dX7_passTime_40 rfl rfl ?_
  refine g_iload F 2 dX7_passTime_41 rfl ?_
  refine g_callVi (k := 0) (n := 0) (b := xs) (As := [.int 0]) (st := []) (wc := [(xs, .inr (6, [.ref n, .ref fo, .ref wa, .ref we])), (n, .inl (cI, 36, .inl g_nums))]) (wr := []) F [0, 1] [] [0] rfl rfl (by decide) rfl (by decide) (by decide) rfl (fun sz => K_X7_swayBehind0 l D xs n fo wa we cI  sz) (cwV 1 hts gX7_passTime_X7_swayBehind rfl rfl rfl (by decide +kernel) ⟨Nat.le_of_ble_eq_true rfl, Nat.le_of_ble_eq_true rfl⟩) rfl 0 rfl rfl (Nat.le_of_ble_eq_true rfl) ⟨Nat.le_of_ble_eq_true rfl, Nat.le_of_ble_eq_true rfl⟩ dX7_passTime_43 (fun r_6 _ hw_7 => ?_)
  have hw_7 : r_6 = 0 := hw_7
  have e_r_6 := hw_7
  show gG p l e (gR 2 0 0 61) s m args below meth c D A 6 Q 0 0 [(xs, .inr (6, [.ref n, .ref fo, .ref wa, .ref we])), (n, .inl (cI, 36, .inl g_nums))] [(cI, .int)] [(3, .int (32 * sv)), (5, .int 0), (4, .int 0), (2, .int 32), (0, .ref xs), (1, .int sv)] 46 [.int r_6]
  refine g_fold 0 e_r_6 ?_
  refine g_istore F [(4, .int 0), (3, .int (32 * sv)), (5, .int 0), (2, .int 32), (0, .ref xs), (1, .int sv)] dX7_passTime_46 (by decide) rfl ?_
  refine g_iinc F (j := 2) 1 [(5, .int 1), (4, .int 0), (3, .int (32 * sv)), (2, .int 32), (0, .ref xs), (1, .int sv)] dX7_passTime_48 rfl (by decide) (by decide) rfl ?_
  refine g_goto F 25 dX7_passTime_51 (by decide) ?_
  refine g_iload F 0 dX7_passTime_25 rfl ?_
  refine g_iload_n F 3 dX7_passTime_27 rfl rfl ?_
  refine g_icmp_ge F 54 dX7_passTime_28 (by decide) (fun h9 => absurd h9 (by decide)) (fun c_28 => ?_)
  refine g_iload_n F 2 dX7_passTime_31 rfl rfl ?_
  refine g_aload_n F 4 dX7_passTime_32 rfl rfl ?_
  refine g_iload F 1 dX7_passTime_33 rfl ?_
  refine g_callVi (k := 0) (n := 0) (b := xs) (As := [.int 0]) (st := [.int (32 * sv)]) (wc := [(xs, .inr (6, [.ref n, .ref fo, .ref wa, .ref we])), (n, .inl (cI, 36, .inl g_nums))]) (wr := []) F [0, 1] [] [0] rfl rfl (by decide) rfl (by decide) (by decide) rfl (fun sz => K_X7_swayAt0 l D xs n fo wa we cI  sz) (cwV 1 hts gX7_passTime_X7_swayAt rfl rfl rfl (by decide +kernel) ⟨Nat.le_of_ble_eq_true rfl, Nat.le_of_ble_eq_true rfl⟩) rfl 0 rfl rfl (Nat.le_of_ble_eq_true rfl) ⟨Nat.le_of_ble_eq_true rfl, Nat.le_of_ble_eq_true rfl⟩ dX7_passTime_35 (fun r_11 _ hw_12 => ?_)
  have hw_12 : r_11 = 0 := hw_12
  have e_r_11 := hw_12
  show gG p l e (gR 2 0 0 61) s m args below meth c D A 6 Q 0 0 [(xs, .inr (6, [.ref n, .ref fo, .ref wa, .ref we])), (n, .inl (cI, 36, .inl g_nums))] [(cI, .int)] [(5, .int 1), (4, .int 0), (3, .int (32 * sv)), (2, .int 32), (0, .ref xs), (1, .int sv)] 38 [.int r_11, .int (32 * sv)]
  refine g_fold 0 e_r_11 ?_
  refine g_iadd F dX7_passTime_38 ?_
  refine g_fold (32 * sv) (by rw [Int32.add_zero]) ?_
  refine g_istore_n F [(3, .int (32 * sv)), (5, .int 1), (4, .int 0), (2, .int 32), (0, .ref xs), (1, .int sv)] dX7_passTime_39 rfl (by decide) rfl ?_
  refine g_aload_n F 4 dX7_passTime_40 rfl rfl ?_
  refine g_iload F 2 dX7_passTime_41 rfl ?_
  refine g_callVi (k := 0) (n := 0) (b := xs) (As := [.int 0]) (st := []) (wc := [(xs, .inr (6, [.ref n, .ref fo, .ref wa, .ref we])), (n, .inl (cI, 36, .inl g_nums))]) (wr := []) F [0, 1] [] [0] rfl rfl (by decide) rfl (by decide) (by decide) rfl (fun sz => K_X7_swayBehind0 l D xs n fo wa we cI  sz) (cwV 1 hts gX7_passTime_X7_swayBehind rfl rfl rfl (by decide +kernel) ⟨Nat.le_of_ble_eq_true rfl, Nat.le_of_ble_eq_true rfl⟩) rfl 0 rfl rfl (Nat.le_of_ble_eq_true rfl) ⟨Nat.le_of_ble_eq_true rfl, Nat.le_of_ble_eq_true rfl⟩ dX7_passTime_43 (fun r_16 _ hw_17 => ?_)
  have hw_17 : r_16 = 0 := hw_17
  have e_r_16 := hw_17
  show gG p l e (gR 2 0 0 61) s m args below meth c D A 6 Q 0 0 [(xs, .inr (6, [.ref n, .ref fo, .ref wa, .ref we])), (n, .inl (cI, 36, .inl g_nums))] [(cI, .int)] [(3, .int (32 * sv)), (5, .int 1), (4, .int 0), (2, .int 32), (0, .ref xs), (1, .int sv)] 46 [.int r_16]
  refine g_fold 0 e_r_16 ?_
  refine g_istore F [(4, .int 0), (3, .int (32 * sv)), (5, .int 1), (2, .int 32), (0, .ref xs), (1, .int sv)] dX7_passTime_46 (by decide) rfl ?_
  refine g_iinc F (j := 2) 2 [(5, .int 2), (4, .int 0), (3, .int (32 * sv)), (2, .int 32), (0, .ref xs), (1, .int sv)] dX7_passTime_48 rfl (by decide) (by decide) rfl ?_
  refine g_goto F 25 dX7_passTime_51 (by decide) ?_
  refine g_iload F 0 dX7_passTime_25 rfl ?_
  refine g_iload_n F 3 dX7_passTime_27 rfl rfl ?_
  refine g_icmp_ge F 54 dX7_passTime_28 (by decide) (fun h9 => absurd h9 (by decide)) (fun c_28 => ?_)
  refine g_iload_n F 2 dX7_passTime_31 rfl rfl ?_
  refine g_aload_n F 4 dX7_passTime_32 rfl rfl ?_
  refine g_iload F 1 dX7_passTime_33 rfl ?_
  refine g_callVi (k := 0) (n := 0) (b := xs) (As := [.int 0]) (st := [.int (32 * sv)]) (wc := [(xs, .inr (6, [.ref n, .ref fo, .ref wa, .ref we])), (n, .inl (cI, 36, .inl g_nums))]) (wr := []) F [0, 1] [] [0] rfl rfl (by decide) rfl (by decide) (by decide) rfl (fun sz => K_X7_swayAt0 l D xs n fo wa we cI  sz) (cwV 1 hts gX7_passTime_X7_swayAt rfl rfl rfl (by decide +kernel) ⟨Nat.le_of_ble_eq_true rfl, Nat.le_of_ble_eq_true rfl⟩) rfl 0 rfl rfl (Nat.le_of_ble_eq_true rfl) ⟨Nat.le_of_ble_eq_true rfl, Nat.le_of_ble_eq_true rfl⟩ dX7_passTime_35 (fun r_21 _ hw_22 => ?_)
  have hw_22 : r_21 = 0 := hw_22
  have e_r_21 := hw_22
  show gG p l e (gR 2 0 0 61) s m args below meth c D A 6 Q 0 0 [(xs, .inr (6, [.ref n, .ref fo, .ref wa, .ref we])), (n, .inl (cI, 36, .inl g_nums))] [(cI, .int)] [(5, .int 2), (4, .int 0), (3, .int (32 * sv)), (2, .int 32), (0, .ref xs), (1, .int sv)] 38 [.int r_21, .int (32 * sv)]
  refine g_fold 0 e_r_21 ?_
  refine g_iadd F dX7_passTime_38 ?_
  refine g_fold (32 * sv) (by rw [Int32.add_zero]) ?_
  refine g_istore_n F [(3, .int (32 * sv)), (5, .int 2), (4, .int 0), (2, .int 32), (0, .ref xs), (1, .int sv)] dX7_passTime_39 rfl (by decide) rfl ?_
  refine g_aload_n F 4 dX7_passTime_40 rfl rfl ?_
  refine g_iload F 2 dX7_passTime_41 rfl ?_
  refine g_callVi (k := 0) (n := 0) (b := xs) (As := [.int 0]) (st := []) (wc := [(xs, .inr (6, [.ref n, .ref fo, .ref wa, .ref we])), (n, .inl (cI, 36, .inl g_nums))]) (wr := []) F [0, 1] [] [0] rfl rfl (by decide) rfl (by decide) (by decide) rfl (fun sz => K_X7_swayBehind0 l D xs n fo wa we cI  sz) (cwV 1 hts gX7_passTime_X7_swayBehind rfl rfl rfl (by decide +kernel) ⟨Nat.le_of_ble_eq_true rfl, Nat.le_of_ble_eq_true rfl⟩) rfl 0 rfl rfl (Nat.le_of_ble_eq_true rfl) ⟨Nat.le_of_ble_eq_true rfl, Nat.le_of_ble_eq_true rfl⟩ dX7_passTime_43 (fun r_26 _ hw_27 => ?_)
  have hw_27 : r_26 = 0 := hw_27
  have e_r_26 := hw_27
  show gG p l e (gR 2 0 0 61) s m args below meth c D A 6 Q 0 0 [(xs, .inr (6, [.ref n, .ref fo, .ref wa, .ref we])), (n, .inl (cI, 36, .inl g_nums))] [(cI, .int)] [(3, .int (32 * sv)), (5, .int 2), (4, .int 0), (2, .int 32), (0, .ref xs), (1, .int sv)] 46 [.int r_26]
  refine g_fold 0 e_r_26 ?_
  refine g_istore F [(4, .int 0), (3, .int (32 * sv)), (5, .int 2), (2, .int 32), (0, .ref xs), (1, .int sv)] dX7_passTime_46 (by decide) rfl ?_
  refine g_iinc F (j := 2) 3 [(5, .int 3), (4, .int 0), (3, .int (32 * sv)), (2, .int 32), (0, .ref xs), (1, .int sv)] dX7_passTime_48 rfl (by decide) (by decide) rfl ?_
  refine g_goto F 25 dX7_passTime_51 (by decide) ?_
  refine g_iload F 0 dX7_passTime_25 rfl ?_
  refine g_iload_n F 3 dX7_passTime_27 rfl rfl ?_
  refine g_icmp_ge F 54 dX7_passTime_28 (by decide) (fun h9 => absurd h9 (by decide)) (fun c_28 => ?_)
  refine g_iload_n F 2 dX7_passTime_31 rfl rfl ?_
  refine g_aload_n F 4 dX7_passTime_32 rfl rfl ?_
  refine g_iload F 1 dX7_passTime_33 rfl ?_
  refine g_callVi (k := 0) (n := 0) (b := xs) (As := [.int 0]) (st := [.int (32 * sv)]) (wc := [(xs, .inr (6, [.ref n, .ref fo, .ref wa, .ref we])), (n, .inl (cI, 36, .inl g_nums))]) (wr := []) F [0, 1] [] [0] rfl rfl (by decide) rfl (by decide) (by decide) rfl (fun sz => K_X7_swayAt0 l D xs n fo wa we cI  sz) (cwV 1 hts gX7_passTime_X7_swayAt rfl rfl rfl (by decide +kernel) ⟨Nat.le_of_ble_eq_true rfl, Nat.le_of_ble_eq_true rfl⟩) rfl 0 rfl rfl (Nat.le_of_ble_eq_true rfl) ⟨Nat.le_of_ble_eq_true rfl, Nat.le_of_ble_eq_true rfl⟩ dX7_passTime_35 (fun r_31 _ hw_32 => ?_)
  have hw_32 : r_31 = 0 := hw_32
  have e_r_31 := hw_32
  show gG p l e (gR 2 0 0 61) s m args below meth c D A 6 Q 0 0 [(xs, .inr (6, [.ref n, .ref fo, .ref wa, .ref we])), (n, .inl (cI, 36, .inl g_nums))] [(cI, .int)] [(5, .int 3), (4, .int 0), (3, .int (32 * sv)), (2, .int 32), (0, .ref xs), (1, .int sv)] 38 [.int r_31, .int (32 * sv)]
  refine g_fold 0 e_r_31 ?_
  refine g_iadd F dX7_passTime_38 ?_
  refine g_fold (32 * sv) (by rw [Int32.add_zero]) ?_
  refine g_istore_n F [(3, .int (32 * sv)), (5, .int 3), (4, .int 0), (2, .int 32), (0, .ref xs), (1, .int sv)] dX7_passTime_39 rfl (by decide) rfl ?_
  refine g_aload_n F 4 dX7_passTime_40 rfl rfl ?_
  refine g_iload F 2 dX7_passTime_41 rfl ?_
  refine g_callVi (k := 0) (n := 0) (b := xs) (As := [.int 0]) (st := []) (wc := [(xs, .inr (6, [.ref n, .ref fo, .ref wa, .ref we])), (n, .inl (cI, 36, .inl g_nums))]) (wr := []) F [0, 1] [] [0] rfl rfl (by decide) rfl (by decide) (by decide) rfl (fun sz => K_X7_swayBehind0 l D xs n fo wa we cI  sz) (cwV 1 hts gX7_passTime_X7_swayBehind rfl rfl rfl (by decide +kernel) ⟨Nat.le_of_ble_eq_true rfl, Nat.le_of_ble_eq_true rfl⟩) rfl 0 rfl rfl (Nat.le_of_ble_eq_true rfl) ⟨Nat.le_of_ble_eq_true rfl, Nat.le_of_ble_eq_true rfl⟩ dX7_passTime_43 (fun r_36 _ hw_37 => ?_)
  have hw_37 : r_36 = 0 := hw_37
  have e_r_36 := hw_37
  show gG p l e (gR 2 0 0 61) s m args below meth c D A 6 Q 0 0 [(xs, .inr (6, [.ref n, .ref fo, .ref wa, .ref we])), (n, .inl (cI, 36, .inl g_nums))] [(cI, .int)] [(3, .int (32 * sv)), (5, .int 3), (4, .int 0), (2, .int 32), (0, .ref xs), (1, .int sv)] 46 [.int r_36]
  refine g_fold 0 e_r_36 ?_
  refine g_istore F [(4, .int 0), (3, .int (32 * sv)), (5, .int 3), (2, .int 32), (0, .ref xs), (1, .int sv)] dX7_passTime_46 (by decide) rfl ?_
  refine g_iinc F (j := 2) 4 [(5, .int 4), (4, .int 0), (3, .int (32 * sv)), (2, .int 32), (0, .ref xs), (1, .int sv)] dX7_passTime_48 rfl (by decide) (by decide) rfl ?_
  refine g_goto F 25 dX7_passTime_51 (by decide) ?_
  refine g_iload F 0 dX7_passTime_25 rfl ?_
  refine g_iload_n F 3 dX7_passTime_27 rfl rfl ?_
  refine g_icmp_ge F 54 dX7_passTime_28 (by decide) (fun h9 => absurd h9 (by decide)) (fun c_28 => ?_)
  refine g_iload_n F 2 dX7_passTime_31 rfl rfl ?_
  refine g_aload_n F 4 dX7_passTime_32 rfl rfl ?_
  refine g_iload F 1 dX7_passTime_33 rfl ?_
  refine g_callVi (k := 0) (n := 0) (b := xs) (As := [.int 0]) (st := [.int (32 * sv)]) (wc := [(xs, .inr (6, [.ref n, .ref fo, .ref wa, .ref we])), (n, .inl (cI, 36, .inl g_nums))]) (wr := []) F [0, 1] [] [0] rfl rfl (by decide) rfl (by decide) (by decide) rfl (fun sz => K_X7_swayAt0 l D xs n fo wa we cI  sz) (cwV 1 hts gX7_passTime_X7_swayAt rfl rfl rfl (by decide +kernel) ⟨Nat.le_of_ble_eq_true rfl, Nat.le_of_ble_eq_true rfl⟩) rfl 0 rfl rfl (Nat.le_of_ble_eq_true rfl) ⟨Nat.le_of_ble_eq_true rfl, Nat.le_of_ble_eq_true rfl⟩ dX7_passTime_35 (fun r_41 _ hw_42 => ?_)
  have hw_42 : r_41 = 0 := hw_42
  have e_r_41 := hw_42
  show gG p l e (gR 2 0 0 61) s m args below meth c D A 6 Q 0 0 [(xs, .inr (6, [.ref n, .ref fo, .ref wa, .ref we])), (n, .inl (cI, 36, .inl g_nums))] [(cI, .int)] [(5, .int 4), (4, .int 0), (3, .int (32 * sv)), (2, .int 32), (0, .ref xs), (1, .int sv)] 38 [.int r_41, .int (32 * sv)]
  refine g_fold 0 e_r_41 ?_
  refine g_iadd F dX7_passTime_38 ?_
  refine g_fold (32 * sv) (by rw [Int32.add_zero]) ?_
  refine g_istore_n F [(3, .int (32 * sv)), (5, .int 4), (4, .int 0), (2, .int 32), (0, .ref xs), (1, .int sv)] dX7_passTime_39 rfl (by decide) rfl ?_
  refine g_aload_n F 4 dX7_passTime_40 rfl rfl ?_
  refine g_iload F 2 dX7_passTime_41 rfl ?_
  refine g_callVi (k := 0) (n := 0) (b := xs) (As := [.int 0]) (st := []) (wc := [(xs, .inr (6, [.ref n, .ref fo, .ref wa, .ref we])), (n, .inl (cI, 36, .inl g_nums))]) (wr := []) F [0, 1] [] [0] rfl rfl (by decide) rfl (by decide) (by decide) rfl (fun sz => K_X7_swayBehind0 l D xs n fo wa we cI  sz) (cwV 1 hts gX7_passTime_X7_swayBehind rfl rfl rfl (by decide +kernel) ⟨Nat.le_of_ble_eq_true rfl, Nat.le_of_ble_eq_true rfl⟩) rfl 0 rfl rfl (Nat.le_of_ble_eq_true rfl) ⟨Nat.le_of_ble_eq_true rfl, Nat.le_of_ble_eq_true rfl⟩ dX7_passTime_43 (fun r_46 _ hw_47 => ?_)
  have hw_47 : r_46 = 0 := hw_47
  have e_r_46 := hw_47
  show gG p l e (gR 2 0 0 61) s m args below meth c D A 6 Q 0 0 [(xs, .inr (6, [.ref n, .ref fo, .ref wa, .ref we])), (n, .inl (cI, 36, .inl g_nums))] [(cI, .int)] [(3, .int (32 * sv)), (5, .int 4), (4, .int 0), (2, .int 32), (0, .ref xs), (1, .int sv)] 46 [.int r_46]
  refine g_fold 0 e_r_46 ?_
  refine g_istore F [(4, .int 0), (3, .int (32 * sv)), (5, .int 4), (2, .int 32), (0, .ref xs), (1, .int sv)] dX7_passTime_46 (by decide) rfl ?_
  refine g_iinc F (j := 2) 5 [(5, .int 5), (4, .int 0), (3, .int (32 * sv)), (2, .int 32), (0, .ref xs), (1, .int sv)] dX7_passTime_48 rfl (by decide) (by decide) rfl ?_
  refine g_goto F 25 dX7_passTime_51 (by decide) ?_
  refine g_iload F 0 dX7_passTime_25 rfl ?_
  refine g_iload_n F 3 dX7_passTime_27 rfl rfl ?_
  refine g_icmp_ge F 54 dX7_passTime_28 (by decide) (fun h9 => absurd h9 (by decide)) (fun c_28 => ?_)
  refine g_iload_n F 2 dX7_passTime_31 rfl rfl ?_
  refine g_aload_n F 4 dX7_passTime_32 rfl rfl ?_
  refine g_iload F 1 dX7_passTime_33 rfl ?_
  refine g_callVi (k := 0) (n := 0) (b := xs) (As := [.int 0]) (st := [.int (32 * sv)]) (wc := [(xs, .inr (6, [.ref n, .ref fo, .ref wa, .ref we])), (n, .inl (cI, 36, .inl g_nums))]) (wr := []) F [0, 1] [] [0] rfl rfl (by decide) rfl (by decide) (by decide) rfl (fun sz => K_X7_swayAt0 l D xs n fo wa we cI  sz) (cwV 1 hts gX7_passTime_X7_swayAt rfl rfl rfl (by decide +kernel) ⟨Nat.le_of_ble_eq_true rfl, Nat.le_of_ble_eq_true rfl⟩) rfl 0 rfl rfl (Nat.le_of_ble_eq_true rfl) ⟨Nat.le_of_ble_eq_true rfl, Nat.le_of_ble_eq_true rfl⟩ dX7_passTime_35 (fun r_51 _ hw_52 => ?_)
  have hw_52 : r_51 = 0 := hw_52
  have e_r_51 := hw_52
  show gG p l e (gR 2 0 0 61) s m args below meth c D A 6 Q 0 0 [(xs, .inr (6, [.ref n, .ref fo, .ref wa, .ref we])), (n, .inl (cI, 36, .inl g_nums))] [(cI, .int)] [(5, .int 5), (4, .int 0), (3, .int (32 * sv)), (2, .int 32), (0, .ref xs), (1, .int sv)] 38 [.int r_51, .int (32 * sv)]
  refine g_fold 0 e_r_51 ?_
  refine g_iadd F dX7_passTime_38 ?_
  refine g_fold (32 * sv) (by rw [Int32.add_zero]) ?_
  refine g_istore_n F [(3, .int (32 * sv)), (5, .int 5), (4, .int 0), (2, .int 32), (0, .ref xs), (1, .int sv)] dX7_passTime_39 rfl (by decide) rfl ?_
  refine g_aload_n F 4 dX7_passTime_40 rfl rfl ?_
  refine g_iload F 2 dX7_passTime_41 rfl ?_
  refine g_callVi (k := 0) (n := 0) (b := xs) (As := [.int 0]) (st := []) (wc := [(xs, .inr (6, [.ref n, .ref fo, .ref wa, .ref we])), (n, .inl (cI, 36, .inl g_nums))]) (wr := []) F [0, 1] [] [0] rfl rfl (by decide) rfl (by decide) (by decide) rfl (fun sz => K_X7_swayBehind0 l D xs n fo wa we cI  sz) (cwV 1 hts gX7_passTime_X7_swayBehind rfl rfl rfl (by decide +kernel) ⟨Nat.le_of_ble_eq_true rfl, Nat.le_of_ble_eq_true rfl⟩) rfl 0 rfl rfl (Nat.le_of_ble_eq_true rfl) ⟨Nat.le_of_ble_eq_true rfl, Nat.le_of_ble_eq_true rfl⟩ dX7_passTime_43 (fun r_56 _ hw_57 => ?_)
  have hw_57 : r_56 = 0 := hw_57
  have e_r_56 := hw_57
  show gG p l e (gR 2 0 0 61) s m args below meth c D A 6 Q 0 0 [(xs, .inr (6, [.ref n, .ref fo, .ref wa, .ref we])), (n, .inl (cI, 36, .inl g_nums))] [(cI, .int)] [(3, .int (32 * sv)), (5, .int 5), (4, .int 0), (2, .int 32), (0, .ref xs), (1, .int sv)] 46 [.int r_56]
  refine g_fold 0 e_r_56 ?_
  refine g_istore F [(4, .int 0), (3, .int (32 * sv)), (5, .int 5), (2, .int 32), (0, .ref xs), (1, .int sv)] dX7_passTime_46 (by decide) rfl ?_
  refine g_iinc F (j := 2) 6 [(5, .int 6), (4, .int 0), (3, .int (32 * sv)), (2, .int 32), (0, .ref xs), (1, .int sv)] dX7_passTime_48 rfl (by decide) (by decide) rfl ?_
  refine g_goto F 25 dX7_passTime_51 (by decide) ?_
  refine g_iload F 0 dX7_passTime_25 rfl ?_
  refine g_iload_n F 3 dX7_passTime_27 rfl rfl ?_
  refine g_icmp_ge F 54 dX7_passTime_28 (by decide) (fun h9 => absurd h9 (by decide)) (fun c_28 => ?_)
  refine g_iload_n F 2 dX7_passTime_31 rfl rfl ?_
  refine g_aload_n F 4 dX7_passTime_32 rfl rfl ?_
  refine g_iload F 1 dX7_passTime_33 rfl ?_
  refine g_callVi (k := 0) (n := 0) (b := xs) (As := [.int 0]) (st := [.int (32 * sv)]) (wc := [(xs, .inr (6, [.ref n, .ref fo, .ref wa, .ref we])), (n, .inl (cI, 36, .inl g_nums))]) (wr := []) F [0, 1] [] [0] rfl rfl (by decide) rfl (by decide) (by decide) rfl (fun sz => K_X7_swayAt0 l D xs n fo wa we cI  sz) (cwV 1 hts gX7_passTime_X7_swayAt rfl rfl rfl (by decide +kernel) ⟨Nat.le_of_ble_eq_true rfl, Nat.le_of_ble_eq_true rfl⟩) rfl 0 rfl rfl (Nat.le_of_ble_eq_true rfl) ⟨Nat.le_of_ble_eq_true rfl, Nat.le_of_ble_eq_true rfl⟩ dX7_passTime_35 (fun r_61 _ hw_62 => ?_)
  have hw_62 : r_61 = 0 := hw_62
  have e_r_61 := hw_62
  show gG p l e (gR 2 0 0 61) s m args below meth c D A 6 Q 0 0 [(xs, .inr (6, [.ref n, .ref fo, .ref wa, .ref we])), (n, .inl (cI, 36, .inl g_nums))] [(cI, .int)] [(5, .int 6), (4, .int 0), (3, .int (32 * sv)), (2, .int 32), (0, .ref xs), (1, .int sv)] 38 [.int r_61, .int (32 * sv)]
  refine g_fold 0 e_r_61 ?_
  refine g_iadd F dX7_passTime_38 ?_
  refine g_fold (32 * sv) (by rw [Int32.add_zero]) ?_
  refine g_istore_n F [(3, .int (32 * sv)), (5, .int 6), (4, .int 0), (2, .int 32), (0, .ref xs), (1, .int sv)] dX7_passTime_39 rfl (by decide) rfl ?_
  refine g_aload_n F 4 dX7_passTime_40 rfl rfl ?_
  refine g_iload F 2 dX7_passTime_41 rfl ?_
  refine g_callVi (k := 0) (n := 0) (b := xs) (As := [.int 0]) (st := []) (wc := [(xs, .inr (6, [.ref n, .ref fo, .ref wa, .ref we])), (n, .inl (cI, 36, .inl g_nums))]) (wr := []) F [0, 1] [] [0] rfl rfl (by decide) rfl (by decide) (by decide) rfl (fun sz => K_X7_swayBehind0 l D xs n fo wa we cI  sz) (cwV 1 hts gX7_passTime_X7_swayBehind rfl rfl rfl (by decide +kernel) ⟨Nat.le_of_ble_eq_true rfl, Nat.le_of_ble_eq_true rfl⟩) rfl 0 rfl rfl (Nat.le_of_ble_eq_true rfl) ⟨Nat.le_of_ble_eq_true rfl, Nat.le_of_ble_eq_true rfl⟩ dX7_passTime_43 (fun r_66 _ hw_67 => ?_)
  have hw_67 : r_66 = 0 := hw_67
  have e_r_66 := hw_67
  show gG p l e (gR 2 0 0 61) s m args below meth c D A 6 Q 0 0 [(xs, .inr (6, [.ref n, .ref fo, .ref wa, .ref we])), (n, .inl (cI, 36, .inl g_nums))] [(cI, .int)] [(3, .int (32 * sv)), (5, .int 6), (4, .int 0), (2, .int 32), (0, .ref xs), (1, .int sv)] 46 [.int r_66]
  refine g_fold 0 e_r_66 ?_
  refine g_istore F [(4, .int 0), (3, .int (32 * sv)), (5, .int 6), (2, .int 32), (0, .ref xs), (1, .int sv)] dX7_passTime_46 (by decide) rfl ?_
  refine g_iinc F (j := 2) 7 [(5, .int 7), (4, .int 0), (3, .int (32 * sv)), (2, .int 32), (0, .ref xs), (1, .int sv)] dX7_passTime_48 rfl (by decide) (by decide) rfl ?_
  refine g_goto F 25 dX7_passTime_51 (by decide) ?_
  refine g_iload F 0 dX7_passTime_25 rfl ?_
  refine g_iload_n F 3 dX7_passTime_27 rfl rfl ?_
  refine g_icmp_ge F 54 dX7_passTime_28 (by decide) (fun h9 => absurd h9 (by decide)) (fun c_28 => ?_)
  refine g_iload_n F 2 dX7_passTime_31 rfl rfl ?_
  refine g_aload_n F 4 dX7_passTime_32 rfl rfl ?_
  refine g_iload F 1 dX7_passTime_33 rfl ?_
  refine g_callVi (k := 0) (n := 0) (b := xs) (As := [.int 0]) (st := [.int (32 * sv)]) (wc := [(xs, .inr (6, [.ref n, .ref fo, .ref wa, .ref we])), (n, .inl (cI, 36, .inl g_nums))]) (wr := []) F [0, 1] [] [0] rfl rfl (by decide) rfl (by decide) (by decide) rfl (fun sz => K_X7_swayAt0 l D xs n fo wa we cI  sz) (cwV 1 hts gX7_passTime_X7_swayAt rfl rfl rfl (by decide +kernel) ⟨Nat.le_of_ble_eq_true rfl, Nat.le_of_ble_eq_true rfl⟩) rfl 0 rfl rfl (Nat.le_of_ble_eq_true rfl) ⟨Nat.le_of_ble_eq_true rfl, Nat.le_of_ble_eq_true rfl⟩ dX7_passTime_35 (fun r_71 _ hw_72 => ?_)
  have hw_72 : r_71 = 0 := hw_72
  have e_r_71 := hw_72
  show gG p l e (gR 2 0 0 61) s m args below meth c D A 6 Q 0 0 [(xs, .inr (6, [.ref n, .ref fo, .ref wa, .ref we])), (n, .inl (cI, 36, .inl g_nums))] [(cI, .int)] [(5, .int 7), (4, .int 0), (3, .int (32 * sv)), (2, .int 32), (0, .ref xs), (1, .int sv)] 38 [.int r_71, .int (32 * sv)]
  refine g_fold 0 e_r_71 ?_
  refine g_iadd F dX7_passTime_38 ?_
  refine g_fold (32 * sv) (by rw [Int32.add_zero]) ?_
  refine g_istore_n F [(3, .int (32 * sv)), (5, .int 7), (4, .int 0), (2, .int 32), (0, .ref xs), (1, .int sv)] dX7_passTime_39 rfl (by decide) rfl ?_
  refine g_aload_n F 4 dX7_passTime_40 rfl rfl ?_
  refine g_iload F 2 dX7_passTime_41 rfl ?_
  refine g_callVi (k := 0) (n := 0) (b := xs) (As := [.int 0]) (st := []) (wc := [(xs, .inr (6, [.ref n, .ref fo, .ref wa, .ref we])), (n, .inl (cI, 36, .inl g_nums))]) (wr := []) F [0, 1] [] [0] rfl rfl (by decide) rfl (by decide) (by decide) rfl (fun sz => K_X7_swayBehind0 l D xs n fo wa we cI  sz) (cwV 1 hts gX7_passTime_X7_swayBehind rfl rfl rfl (by decide +kernel) ⟨Nat.le_of_ble_eq_true rfl, Nat.le_of_ble_eq_true rfl⟩) rfl 0 rfl rfl (Nat.le_of_ble_eq_true rfl) ⟨Nat.le_of_ble_eq_true rfl, Nat.le_of_ble_eq_true rfl⟩ dX7_passTime_43 (fun r_76 _ hw_77 => ?_)
  have hw_77 : r_76 = 0 := hw_77
  have e_r_76 := hw_77
  show gG p l e (gR 2 0 0 61) s m args below meth c D A 6 Q 0 0 [(xs, .inr (6, [.ref n, .ref fo, .ref wa, .ref we])), (n, .inl (cI, 36, .inl g_nums))] [(cI, .int)] [(3, .int (32 * sv)), (5, .int 7), (4, .int 0), (2, .int 32), (0, .ref xs), (1, .int sv)] 46 [.int r_76]
  refine g_fold 0 e_r_76 ?_
  refine g_istore F [(4, .int 0), (3, .int (32 * sv)), (5, .int 7), (2, .int 32), (0, .ref xs), (1, .int sv)] dX7_passTime_46 (by decide) rfl ?_
  refine g_iinc F (j := 2) 8 [(5, .int 8), (4, .int 0), (3, .int (32 * sv)), (2, .int 32), (0, .ref xs), (1, .int sv)] dX7_passTime_48 rfl (by decide) (by decide) rfl ?_
  refine g_goto F 25 dX7_passTime_51 (by decide) ?_
  refine g_iload F 0 dX7_passTime_25 rfl ?_
  refine g_iload_n F 3 dX7_passTime_27 rfl rfl ?_
  refine g_icmp_ge F 54 dX7_passTime_28 (by decide) (fun h9 => absurd h9 (by decide)) (fun c_28 => ?_)
  refine g_iload_n F 2 dX7_passTime_31 rfl rfl ?_
  refine g_aload_n F 4 dX7_passTime_32 rfl rfl ?_
  refine g_iload F 1 dX7_passTime_33 rfl ?_
  refine g_callVi (k := 0) (n := 0) (b := xs) (As := [.int 0]) (st := [.int (32 * sv)]) (wc := [(xs, .inr (6, [.ref n, .ref fo, .ref wa, .ref we])), (n, .inl (cI, 36, .inl g_nums))]) (wr := []) F [0, 1] [] [0] rfl rfl (by decide) rfl (by decide) (by decide) rfl (fun sz => K_X7_swayAt0 l D xs n fo wa we cI  sz) (cwV 1 hts gX7_passTime_X7_swayAt rfl rfl rfl (by decide +kernel) ⟨Nat.le_of_ble_eq_true rfl, Nat.le_of_ble_eq_true rfl⟩) rfl 0 rfl rfl (Nat.le_of_ble_eq_true rfl) ⟨Nat.le_of_ble_eq_true rfl, Nat.le_of_ble_eq_true rfl⟩ dX7_passTime_35 (fun r_81 _ hw_82 => ?_)
  have hw_82 : r_81 = 0 := hw_82
  have e_r_81 := hw_82
  show gG p l e (gR 2 0 0 61) s m args below meth c D A 6 Q 0 0 [(xs, .inr (6, [.ref n, .ref fo, .ref wa, .ref we])), (n, .inl (cI, 36, .inl g_nums))] [(cI, .int)] [(5, .int 8), (4, .int 0), (3, .int (32 * sv)), (2, .int 32), (0, .ref xs), (1, .int sv)] 38 [.int r_81, .int (32 * sv)]
  refine g_fold 0 e_r_81 ?_
  refine g_iadd F dX7_passTime_38 ?_
  refine g_fold (32 * sv) (by rw [Int32.add_zero]) ?_
  refine g_istore_n F [(3, .int (32 * sv)), (5, .int 8), (4, .int 0), (2, .int 32), (0, .ref xs), (1, .int sv)] dX7_passTime_39 rfl (by decide) rfl ?_
  refine g_aload_n F 4 dX7_passTime_40 rfl rfl ?_
  refine g_iload F 2 dX7_passTime_41 rfl ?_
  refine g_callVi (k := 0) (n := 0) (b := xs) (As := [.int 0]) (st := []) (wc := [(xs, .inr (6, [.ref n, .ref fo, .ref wa, .ref we])), (n, .inl (cI, 36, .inl g_nums))]) (wr := []) F [0, 1] [] [0] rfl rfl (by decide) rfl (by decide) (by decide) rfl (fun sz => K_X7_swayBehind0 l D xs n fo wa we cI  sz) (cwV 1 hts gX7_passTime_X7_swayBehind rfl rfl rfl (by decide +kernel) ⟨Nat.le_of_ble_eq_true rfl, Nat.le_of_ble_eq_true rfl⟩) rfl 0 rfl rfl (Nat.le_of_ble_eq_true rfl) ⟨Nat.le_of_ble_eq_true rfl, Nat.le_of_ble_eq_true rfl⟩ dX7_passTime_43 (fun r_86 _ hw_87 => ?_)
  have hw_87 : r_86 = 0 := hw_87
  have e_r_86 := hw_87
  show gG p l e (gR 2 0 0 61) s m args below meth c D A 6 Q 0 0 [(xs, .inr (6, [.ref n, .ref fo, .ref wa, .ref we])), (n, .inl (cI, 36, .inl g_nums))] [(cI, .int)] [(3, .int (32 * sv)), (5, .int 8), (4, .int 0), (2, .int 32), (0, .ref xs), (1, .int sv)] 46 [.int r_86]
  refine g_fold 0 e_r_86 ?_
  refine g_istore F [(4, .int 0), (3, .int (32 * sv)), (5, .int 8), (2, .int 32), (0, .ref xs), (1, .int sv)] dX7_passTime_46 (by decide) rfl ?_
  refine g_iinc F (j := 2) 9 [(5, .int 9), (4, .int 0), (3, .int (32 * sv)), (2, .int 32), (0, .ref xs), (1, .int sv)] dX7_passTime_48 rfl (by decide) (by decide) rfl ?_
  refine g_goto F 25 dX7_passTime_51 (by decide) ?_
  refine g_iload F 0 dX7_passTime_25 rfl ?_
  refine g_iload_n F 3 dX7_passTime_27 rfl rfl ?_
  refine g_icmp_ge F 54 dX7_passTime_28 (by decide) (fun h9 => absurd h9 (by decide)) (fun c_28 => ?_)
  refine g_iload_n F 2 dX7_passTime_31 rfl rfl ?_
  refine g_aload_n F 4 dX7_passTime_32 rfl rfl ?_
  refine g_iload F 1 dX7_passTime_33 rfl ?_
  refine g_callVi (k := 0) (n := 0) (b := xs) (As := [.int 0]) (st := [.int (32 * sv)]) (wc := [(xs, .inr (6, [.ref n, .ref fo, .ref wa, .ref we])), (n, .inl (cI, 36, .inl g_nums))]) (wr := []) F [0, 1] [] [0] rfl rfl (by decide) rfl (by decide) (by decide) rfl (fun sz => K_X7_swayAt0 l D xs n fo wa we cI  sz) (cwV 1 hts gX7_passTime_X7_swayAt rfl rfl rfl (by decide +kernel) ⟨Nat.le_of_ble_eq_true rfl, Nat.le_of_ble_eq_true rfl⟩) rfl 0 rfl rfl (Nat.le_of_ble_eq_true rfl) ⟨Nat.le_of_ble_eq_true rfl, Nat.le_of_ble_eq_true rfl⟩ dX7_passTime_35 (fun r_91 _ hw_92 => ?_)
  have hw_92 : r_91 = 0 := hw_92
  have e_r_91 := hw_92
  show gG p l e (gR 2 0 0 61) s m args below meth c D A 6 Q 0 0 [(xs, .inr (6, [.ref n, .ref fo, .ref wa, .ref we])), (n, .inl (cI, 36, .inl g_nums))] [(cI, .int)] [(5, .int 9), (4, .int 0), (3, .int (32 * sv)), (2, .int 32), (0, .ref xs), (1, .int sv)] 38 [.int r_91, .int (32 * sv)]
  refine g_fold 0 e_r_91 ?_
  refine g_iadd F dX7_passTime_38 ?_
  refine g_fold (32 * sv) (by rw [Int32.add_zero]) ?_
  refine g_istore_n F [(3, .int (32 * sv)), (5, .int 9), (4, .int 0), (2, .int 32), (0, .ref xs), (1, .int sv)] dX7_passTime_39 rfl (by decide) rfl ?_
  refine g_aload_n F 4 dX7_passTime_40 rfl rfl ?_
  refine g_iload F 2 dX7_passTime_41 rfl ?_
  refine g_callVi (k := 0) (n := 0) (b := xs) (As := [.int 0]) (st := []) (wc := [(xs, .inr (6, [.ref n, .ref fo, .ref wa, .ref we])), (n, .inl (cI, 36, .inl g_nums))]) (wr := []) F [0, 1] [] [0] rfl rfl (by decide) rfl (by decide) (by decide) rfl (fun sz => K_X7_swayBehind0 l D xs n fo wa we cI  sz) (cwV 1 hts gX7_passTime_X7_swayBehind rfl rfl rfl (by decide +kernel) ⟨Nat.le_of_ble_eq_true rfl, Nat.le_of_ble_eq_true rfl⟩) rfl 0 rfl rfl (Nat.le_of_ble_eq_true rfl) ⟨Nat.le_of_ble_eq_true rfl, Nat.le_of_ble_eq_true rfl⟩ dX7_passTime_43 (fun r_96 _ hw_97 => ?_)
  have hw_97 : r_96 = 0 := hw_97
  have e_r_96 := hw_97
  show gG p l e (gR 2 0 0 61) s m args below meth c D A 6 Q 0 0 [(xs, .inr (6, [.ref n, .ref fo, .ref wa, .ref we])), (n, .inl (cI, 36, .inl g_nums))] [(cI, .int)] [(3, .int (32 * sv)), (5, .int 9), (4, .int 0), (2, .int 32), (0, .ref xs), (1, .int sv)] 46 [.int r_96]
  refine g_fold 0 e_r_96 ?_
  refine g_istore F [(4, .int 0), (3, .int (32 * sv)), (5, .int 9), (2, .int 32), (0, .ref xs), (1, .int sv)] dX7_passTime_46 (by decide) rfl ?_
  refine g_iinc F (j := 2) 10 [(5, .int 10), (4, .int 0), (3, .int (32 * sv)), (2, .int 32), (0, .ref xs), (1, .int sv)] dX7_passTime_48 rfl (by decide) (by decide) rfl ?_
  refine g_goto F 25 dX7_passTime_51 (by decide) ?_
  refine g_iload F 0 dX7_passTime_25 rfl ?_
  refine g_iload_n F 3 dX7_passTime_27 rfl rfl ?_
  refine g_icmp_ge F 54 dX7_passTime_28 (by decide) (fun h9 => absurd h9 (by decide)) (fun c_28 => ?_)
  refine g_iload_n F 2 dX7_passTime_31 rfl rfl ?_
  refine g_aload_n F 4 dX7_passTime_32 rfl rfl ?_
  refine g_iload F 1 dX7_passTime_33 rfl ?_
  refine g_callVi (k := 0) (n := 0) (b := xs) (As := [.int 0]) (st := [.int (32 * sv)]) (wc := [(xs, .inr (6, [.ref n, .ref fo, .ref wa, .ref we])), (n, .inl (cI, 36, .inl g_nums))]) (wr := []) F [0, 1] [] [0] rfl rfl (by decide) rfl (by decide) (by decide) rfl (fun sz => K_X7_swayAt0 l D xs n fo wa we cI  sz) (cwV 1 hts gX7_passTime_X7_swayAt rfl rfl rfl (by decide +kernel) ⟨Nat.le_of_ble_eq_true rfl, Nat.le_of_ble_eq_true rfl⟩) rfl 0 rfl rfl (Nat.le_of_ble_eq_true rfl) ⟨Nat.le_of_ble_eq_true rfl, Nat.le_of_ble_eq_true rfl⟩ dX7_passTime_35 (fun r_101 _ hw_102 => ?_)
  have hw_102 : r_101 = 0 := hw_102
  have e_r_101 := hw_102
  show gG p l e (gR 2 0 0 61) s m args below meth c D A 6 Q 0 0 [(xs, .inr (6, [.ref n, .ref fo, .ref wa, .ref we])), (n, .inl (cI, 36, .inl g_nums))] [(cI, .int)] [(5, .int 10), (4, .int 0), (3, .int (32 * sv)), (2, .int 32), (0, .ref xs), (1, .int sv)] 38 [.int r_101, .int (32 * sv)]
  refine g_fold 0 e_r_101 ?_
  refine g_iadd F dX7_passTime_38 ?_
  refine g_fold (32 * sv) (by rw [Int32.add_zero]) ?_
  refine g_istore_n F [(3, .int (32 * sv)), (5, .int 10), (4, .int 0), (2, .int 32), (0, .ref xs), (1, .int sv)] dX7_passTime_39 rfl (by decide) rfl ?_
  refine g_aload_n F 4 dX7_passTime_40 rfl rfl ?_
  refine g_iload F 2 dX7_passTime_41 rfl ?_
  refine g_callVi (k := 0) (n := 0) (b := xs) (As := [.int 0]) (st := []) (wc := [(xs, .inr (6, [.ref n, .ref fo, .ref wa, .ref we])), (n, .inl (cI, 36, .inl g_nums))]) (wr := []) F [0, 1] [] [0] rfl rfl (by decide) rfl (by decide) (by decide) rfl (fun sz => K_X7_swayBehind0 l D xs n fo wa we cI  sz) (cwV 1 hts gX7_passTime_X7_swayBehind rfl rfl rfl (by decide +kernel) ⟨Nat.le_of_ble_eq_true rfl, Nat.le_of_ble_eq_true rfl⟩) rfl 0 rfl rfl (Nat.le_of_ble_eq_true rfl) ⟨Nat.le_of_ble_eq_true rfl, Nat.le_of_ble_eq_true rfl⟩ dX7_passTime_43 (fun r_106 _ hw_107 => ?_)
  have hw_107 : r_106 = 0 := hw_107
  have e_r_106 := hw_107
  show gG p l e (gR 2 0 0 61) s m args below meth c D A 6 Q 0 0 [(xs, .inr (6, [.ref n, .ref fo, .ref wa, .ref we])), (n, .inl (cI, 36, .inl g_nums))] [(cI, .int)] [(3, .int (32 * sv)), (5, .int 10), (4, .int 0), (2, .int 32), (0, .ref xs), (1, .int sv)] 46 [.int r_106]
  refine g_fold 0 e_r_106 ?_
  refine g_istore F [(4, .int 0), (3, .int (32 * sv)), (5, .int 10), (2, .int 32), (0, .ref xs), (1, .int sv)] dX7_passTime_46 (by decide) rfl ?_
  refine g_iinc F (j := 2) 11 [(5, .int 11), (4, .int 0), (3, .int (32 * sv)), (2, .int 32), (0, .ref xs), (1, .int sv)] dX7_passTime_48 rfl (by decide) (by decide) rfl ?_
  refine g_goto F 25 dX7_passTime_51 (by decide) ?_
  refine g_iload F 0 dX7_passTime_25 rfl ?_
  refine g_iload_n F 3 dX7_passTime_27 rfl rfl ?_
  refine g_icmp_ge F 54 dX7_passTime_28 (by decide) (fun h9 => absurd h9 (by decide)) (fun c_28 => ?_)
  refine g_iload_n F 2 dX7_passTime_31 rfl rfl ?_
  refine g_aload_n F 4 dX7_passTime_32 rfl rfl ?_
  refine g_iload F 1 dX7_passTime_33 rfl ?_
  refine g_callVi (k := 0) (n := 0) (b := xs) (As := [.int 0]) (st := [.int (32 * sv)]) (wc := [(xs, .inr (6, [.ref n, .ref fo, .ref wa, .ref we])), (n, .inl (cI, 36, .inl g_nums))]) (wr := []) F [0, 1] [] [0] rfl rfl (by decide) rfl (by decide) (by decide) rfl (fun sz => K_X7_swayAt0 l D xs n fo wa we cI  sz) (cwV 1 hts gX7_passTime_X7_swayAt rfl rfl rfl (by decide +kernel) ⟨Nat.le_of_ble_eq_true rfl, Nat.le_of_ble_eq_true rfl⟩) rfl 0 rfl rfl (Nat.le_of_ble_eq_true rfl) ⟨Nat.le_of_ble_eq_true rfl, Nat.le_of_ble_eq_true rfl⟩ dX7_passTime_35 (fun r_111 _ hw_112 => ?_)
  have hw_112 : r_111 = 0 := hw_112
  have e_r_111 := hw_112
  show gG p l e (gR 2 0 0 61) s m args below meth c D A 6 Q 0 0 [(xs, .inr (6, [.ref n, .ref fo, .ref wa, .ref we])), (n, .inl (cI, 36, .inl g_nums))] [(cI, .int)] [(5, .int 11), (4, .int 0), (3, .int (32 * sv)), (2, .int 32), (0, .ref xs), (1, .int sv)] 38 [.int r_111, .int (32 * sv)]
  refine g_fold 0 e_r_111 ?_
  refine g_iadd F dX7_passTime_38 ?_
  refine g_fold (32 * sv) (by rw [Int32.add_zero]) ?_
  refine g_istore_n F [(3, .int (32 * sv)), (5, .int 11), (4, .int 0), (2, .int 32), (0, .ref xs), (1, .int sv)] dX7_passTime_39 rfl (by decide) rfl ?_
  refine g_aload_n F 4 dX7_passTime_40 rfl rfl ?_
  refine g_iload F 2 dX7_passTime_41 rfl ?_
  refine g_callVi (k := 0) (n := 0) (b := xs) (As := [.int 0]) (st := []) (wc := [(xs, .inr (6, [.ref n, .ref fo, .ref wa, .ref we])), (n, .inl (cI, 36, .inl g_nums))]) (wr := []) F [0, 1] [] [0] rfl rfl (by decide) rfl (by decide) (by decide) rfl (fun sz => K_X7_swayBehind0 l D xs n fo wa we cI  sz) (cwV 1 hts gX7_passTime_X7_swayBehind rfl rfl rfl (by decide +kernel) ⟨Nat.le_of_ble_eq_true rfl, Nat.le_of_ble_eq_true rfl⟩) rfl 0 rfl rfl (Nat.le_of_ble_eq_true rfl) ⟨Nat.le_of_ble_eq_true rfl, Nat.le_of_ble_eq_true rfl⟩ dX7_passTime_43 (fun r_116 _ hw_117 => ?_)
  have hw_117 : r_116 = 0 := hw_117
  have e_r_116 := hw_117
  show gG p l e (gR 2 0 0 61) s m args below meth c D A 6 Q 0 0 [(xs, .inr (6, [.ref n, .ref fo, .ref wa, .ref we])), (n, .inl (cI, 36, .inl g_nums))] [(cI, .int)] [(3, .int (32 * sv)), (5, .int 11), (4, .int 0), (2, .int 32), (0, .ref xs), (1, .int sv)] 46 [.int r_116]
  refine g_fold 0 e_r_116 ?_
  refine g_istore F [(4, .int 0), (3, .int (32 * sv)), (5, .int 11), (2, .int 32), (0, .ref xs), (1, .int sv)] dX7_passTime_46 (by decide) rfl ?_
  refine g_iinc F (j := 2) 12 [(5, .int 12), (4, .int 0), (3, .int (32 * sv)), (2, .int 32), (0, .ref xs), (1, .int sv)] dX7_passTime_48 rfl (by decide) (by decide) rfl ?_
  refine g_goto F 25 dX7_passTime_51 (by decide) ?_
  refine g_iload F 0 dX7_passTime_25 rfl ?_
  refine g_iload_n F 3 dX7_passTime_27 rfl rfl ?_
  refine g_icmp_ge F 54 dX7_passTime_28 (by decide) (fun h9 => absurd h9 (by decide)) (fun c_28 => ?_)
  refine g_iload_n F 2 dX7_passTime_31 rfl rfl ?_
  refine g_aload_n F 4 dX7_passTime_32 rfl rfl ?_
  refine g_iload F 1 dX7_passTime_33 rfl ?_
  refine g_callVi (k := 0) (n := 0) (b := xs) (As := [.int 0]) (st := [.int (32 * sv)]) (wc := [(xs, .inr (6, [.ref n, .ref fo, .ref wa, .ref we])), (n, .inl (cI, 36, .inl g_nums))]) (wr := []) F [0, 1] [] [0] rfl rfl (by decide) rfl (by decide) (by decide) rfl (fun sz => K_X7_swayAt0 l D xs n fo wa we cI  sz) (cwV 1 hts gX7_passTime_X7_swayAt rfl rfl rfl (by decide +kernel) ⟨Nat.le_of_ble_eq_true rfl, Nat.le_of_ble_eq_true rfl⟩) rfl 0 rfl rfl (Nat.le_of_ble_eq_true rfl) ⟨Nat.le_of_ble_eq_true rfl, Nat.le_of_ble_eq_true rfl⟩ dX7_passTime_35 (fun r_121 _ hw_122 => ?_)
  have hw_122 : r_121 = 0 := hw_122
  have e_r_121 := hw_122
  show gG p l e (gR 2 0 0 61) s m args below meth c D A 6 Q 0 0 [(xs, .inr (6, [.ref n, .ref fo, .ref wa, .ref we])), (n, .inl (cI, 36, .inl g_nums))] [(cI, .int)] [(5, .int 12), (4, .int 0), (3, .int (32 * sv)), (2, .int 32), (0, .ref xs), (1, .int sv)] 38 [.int r_121, .int (32 * sv)]
  refine g_fold 0 e_r_121 ?_
  refine g_iadd F dX7_passTime_38 ?_
  refine g_fold (32 * sv) (by rw [Int32.add_zero]) ?_
  refine g_istore_n F [(3, .int (32 * sv)), (5, .int 12), (4, .int 0), (2, .int 32), (0, .ref xs), (1, .int sv)] dX7_passTime_39 rfl (by decide) rfl ?_
  refine g_aload_n F 4 dX7_passTime_40 rfl rfl ?_
  refine g_iload F 2 dX7_passTime_41 rfl ?_
  refine g_callVi (k := 0) (n := 0) (b := xs) (As := [.int 0]) (st := []) (wc := [(xs, .inr (6, [.ref n, .ref fo, .ref wa, .ref we])), (n, .inl (cI, 36, .inl g_nums))]) (wr := []) F [0, 1] [] [0] rfl rfl (by decide) rfl (by decide) (by decide) rfl (fun sz => K_X7_swayBehind0 l D xs n fo wa we cI  sz) (cwV 1 hts gX7_passTime_X7_swayBehind rfl rfl rfl (by decide +kernel) ⟨Nat.le_of_ble_eq_true rfl, Nat.le_of_ble_eq_true rfl⟩) rfl 0 rfl rfl (Nat.le_of_ble_eq_true rfl) ⟨Nat.le_of_ble_eq_true rfl, Nat.le_of_ble_eq_true rfl⟩ dX7_passTime_43 (fun r_126 _ hw_127 => ?_)
  have hw_127 : r_126 = 0 := hw_127
  have e_r_126 := hw_127
  show gG p l e (gR 2 0 0 61) s m args below meth c D A 6 Q 0 0 [(xs, .inr (6, [.ref n, .ref fo, .ref wa, .ref we])), (n, .inl (cI, 36, .inl g_nums))] [(cI, .int)] [(3, .int (32 * sv)), (5, .int 12), (4, .int 0), (2, .int 32), (0, .ref xs), (1, .int sv)] 46 [.int r_126]
  refine g_fold 0 e_r_126 ?_
  refine g_istore F [(4, .int 0), (3, .int (32 * sv)), (5, .int 12), (2, .int 32), (0, .ref xs), (1, .int sv)] dX7_passTime_46 (by decide) rfl ?_
  refine g_iinc F (j := 2) 13 [(5, .int 13), (4, .int 0), (3, .int (32 * sv)), (2, .int 32), (0, .ref xs), (1, .int sv)] dX7_passTime_48 rfl (by decide) (by decide) rfl ?_
  refine g_goto F 25 dX7_passTime_51 (by decide) ?_
  refine g_iload F 0 dX7_passTime_25 rfl ?_
  refine g_iload_n F 3 dX7_passTime_27 rfl rfl ?_
  refine g_icmp_ge F 54 dX7_passTime_28 (by decide) (fun h9 => absurd h9 (by decide)) (fun c_28 => ?_)
  refine g_iload_n F 2 dX7_passTime_31 rfl rfl ?_
  refine g_aload_n F 4 dX7_passTime_32 rfl rfl ?_
  refine g_iload F 1 dX7_passTime_33 rfl ?_
  refine g_callVi (k := 0) (n := 0) (b := xs) (As := [.int 0]) (st := [.int (32 * sv)]) (wc := [(xs, .inr (6, [.ref n, .ref fo, .ref wa, .ref we])), (n, .inl (cI, 36, .inl g_nums))]) (wr := []) F [0, 1] [] [0] rfl rfl (by decide) rfl (by decide) (by decide) rfl (fun sz => K_X7_swayAt0 l D xs n fo wa we cI  sz) (cwV 1 hts gX7_passTime_X7_swayAt rfl rfl rfl (by decide +kernel) ⟨Nat.le_of_ble_eq_true rfl, Nat.le_of_ble_eq_true rfl⟩) rfl 0 rfl rfl (Nat.le_of_ble_eq_true rfl) ⟨Nat.le_of_ble_eq_true rfl, Nat.le_of_ble_eq_true rfl⟩ dX7_passTime_35 (fun r_131 _ hw_132 => ?_)
  have hw_132 : r_131 = 0 := hw_132
  have e_r_131 := hw_132
  show gG p l e (gR 2 0 0 61) s m args below meth c D A 6 Q 0 0 [(xs, .inr (6, [.ref n, .ref fo, .ref wa, .ref we])), (n, .inl (cI, 36, .inl g_nums))] [(cI, .int)] [(5, .int 13), (4, .int 0), (3, .int (32 * sv)), (2, .int 32), (0, .ref xs), (1, .int sv)] 38 [.int r_131, .int (32 * sv)]
  refine g_fold 0 e_r_131 ?_
  refine g_iadd F dX7_passTime_38 ?_
  refine g_fold (32 * sv) (by rw [Int32.add_zero]) ?_
  refine g_istore_n F [(3, .int (32 * sv)), (5, .int 13), (4, .int 0), (2, .int 32), (0, .ref xs), (1, .int sv)] dX7_passTime_39 rfl (by decide) rfl ?_
  refine g_aload_n F 4 dX7_passTime_40 rfl rfl ?_
  refine g_iload F 2 dX7_passTime_41 rfl ?_
  refine g_callVi (k := 0) (n := 0) (b := xs) (As := [.int 0]) (st := []) (wc := [(xs, .inr (6, [.ref n, .ref fo, .ref wa, .ref we])), (n, .inl (cI, 36, .inl g_nums))]) (wr := []) F [0, 1] [] [0] rfl rfl (by decide) rfl (by decide) (by decide) rfl (fun sz => K_X7_swayBehind0 l D xs n fo wa we cI  sz) (cwV 1 hts gX7_passTime_X7_swayBehind rfl rfl rfl (by decide +kernel) ⟨Nat.le_of_ble_eq_true rfl, Nat.le_of_ble_eq_true rfl⟩) rfl 0 rfl rfl (Nat.le_of_ble_eq_true rfl) ⟨Nat.le_of_ble_eq_true rfl, Nat.le_of_ble_eq_true rfl⟩ dX7_passTime_43 (fun r_136 _ hw_137 => ?_)
  have hw_137 : r_136 = 0 := hw_137
  have e_r_136 := hw_137
  show gG p l e (gR 2 0 0 61) s m args below meth c D A 6 Q 0 0 [(xs, .inr (6, [.ref n, .ref fo, .ref wa, .ref we])), (n, .inl (cI, 36, .inl g_nums))] [(cI, .int)] [(3, .int (32 * sv)), (5, .int 13), (4, .int 0), (2, .int 32), (0, .ref xs), (1, .int sv)] 46 [.int r_136]
  refine g_fold 0 e_r_136 ?_
  refine g_istore F [(4, .int 0), (3, .int (32 * sv)), (5, .int 13), (2, .int 32), (0, .ref xs), (1, .int sv)] dX7_passTime_46 (by decide) rfl ?_
  refine g_iinc F (j := 2) 14 [(5, .int 14), (4, .int 0), (3, .int (32 * sv)), (2, .int 32), (0, .ref xs), (1, .int sv)] dX7_passTime_48 rfl (by decide) (by decide) rfl ?_
  refine g_goto F 25 dX7_passTime_51 (by decide) ?_
  refine g_iload F 0 dX7_passTime_25 rfl ?_
  refine g_iload_n F 3 dX7_passTime_27 rfl rfl ?_
  refine g_icmp_ge F 54 dX7_passTime_28 (by decide) (fun h9 => absurd h9 (by decide)) (fun c_28 => ?_)
  refine g_iload_n F 2 dX7_passTime_31 rfl rfl ?_
  refine g_aload_n F 4 dX7_passTime_32 rfl rfl ?_
  refine g_iload F 1 dX7_passTime_33 rfl ?_
  refine g_callVi (k := 0) (n := 0) (b := xs) (As := [.int 0]) (st := [.int (32 * sv)]) (wc := [(xs, .inr (6, [.ref n, .ref fo, .ref wa, .ref we])), (n, .inl (cI, 36, .inl g_nums))]) (wr := []) F [0, 1] [] [0] rfl rfl (by decide) rfl (by decide) (by decide) rfl (fun sz => K_X7_swayAt0 l D xs n fo wa we cI  sz) (cwV 1 hts gX7_passTime_X7_swayAt rfl rfl rfl (by decide +kernel) ⟨Nat.le_of_ble_eq_true rfl, Nat.le_of_ble_eq_true rfl⟩) rfl 0 rfl rfl (Nat.le_of_ble_eq_true rfl) ⟨Nat.le_of_ble_eq_true rfl, Nat.le_of_ble_eq_true rfl⟩ dX7_passTime_35 (fun r_141 _ hw_142 => ?_)
  have hw_142 : r_141 = 0 := hw_142
  have e_r_141 := hw_142
  show gG p l e (gR 2 0 0 61) s m args below meth c D A 6 Q 0 0 [(xs, .inr (6, [.ref n, .ref fo, .ref wa, .ref we])), (n, .inl (cI, 36, .inl g_nums))] [(cI, .int)] [(5, .int 14), (4, .int 0), (3, .int (32 * sv)), (2, .int 32), (0, .ref xs), (1, .int sv)] 38 [.int r_141, .int (32 * sv)]
  refine g_fold 0 e_r_141 ?_
  refine g_iadd F dX7_passTime_38 ?_
  refine g_fold (32 * sv) (by rw [Int32.add_zero]) ?_
  refine g_istore_n F [(3, .int (32 * sv)), (5, .int 14), (4, .int 0), (2, .int 32), (0, .ref xs), (1, .int sv)] dX7_passTime_39 rfl (by decide) rfl ?_
  refine g_aload_n F 4 dX7_passTime_40 rfl rfl ?_
  refine g_iload F 2 dX7_passTime_41 rfl ?_
  refine g_callVi (k := 0) (n := 0) (b := xs) (As := [.int 0]) (st := []) (wc := [(xs, .inr (6, [.ref n, .ref fo, .ref wa, .ref we])), (n, .inl (cI, 36, .inl g_nums))]) (wr := []) F [0, 1] [] [0] rfl rfl (by decide) rfl (by decide) (by decide) rfl (fun sz => K_X7_swayBehind0 l D xs n fo wa we cI  sz) (cwV 1 hts gX7_passTime_X7_swayBehind rfl rfl rfl (by decide +kernel) ⟨Nat.le_of_ble_eq_true rfl, Nat.le_of_ble_eq_true rfl⟩) rfl 0 rfl rfl (Nat.le_of_ble_eq_true rfl) ⟨Nat.le_of_ble_eq_true rfl, Nat.le_of_ble_eq_true rfl⟩ dX7_passTime_43 (fun r_146 _ hw_147 => ?_)
  have hw_147 : r_146 = 0 := hw_147
  have e_r_146 := hw_147
  show gG p l e (gR 2 0 0 61) s m args below meth c D A 6 Q 0 0 [(xs, .inr (6, [.ref n, .ref fo, .ref wa, .ref we])), (n, .inl (cI, 36, .inl g_nums))] [(cI, .int)] [(3, .int (32 * sv)), (5, .int 14), (4, .int 0), (2, .int 32), (0, .ref xs), (1, .int sv)] 46 [.int r_146]
  refine g_fold 0 e_r_146 ?_
  refine g_istore F [(4, .int 0), (3, .int (32 * sv)), (5, .int 14), (2, .int 32), (0, .ref xs), (1, .int sv)] dX7_passTime_46 (by decide) rfl ?_
  refine g_iinc F (j := 2) 15 [(5, .int 15), (4, .int 0), (3, .int (32 * sv)), (2, .int 32), (0, .ref xs), (1, .int sv)] dX7_passTime_48 rfl (by decide) (by decide) rfl ?_
  refine g_goto F 25 dX7_passTime_51 (by decide) ?_
  refine g_iload F 0 dX7_passTime_25 rfl ?_
  refine g_iload_n F 3 dX7_passTime_27 rfl rfl ?_
  refine g_icmp_ge F 54 dX7_passTime_28 (by decide) (fun h9 => absurd h9 (by decide)) (fun c_28 => ?_)
  refine g_iload_n F 2 dX7_passTime_31 rfl rfl ?_
  refine g_aload_n F 4 dX7_passTime_32 rfl rfl ?_
  refine g_iload F 1 dX7_passTime_33 rfl ?_
  refine g_callVi (k := 0) (n := 0) (b := xs) (As := [.int 0]) (st := [.int (32 * sv)]) (wc := [(xs, .inr (6, [.ref n, .ref fo, .ref wa, .ref we])), (n, .inl (cI, 36, .inl g_nums))]) (wr := []) F [0, 1] [] [0] rfl rfl (by decide) rfl (by decide) (by decide) rfl (fun sz => K_X7_swayAt0 l D xs n fo wa we cI  sz) (cwV 1 hts gX7_passTime_X7_swayAt rfl rfl rfl (by decide +kernel) ⟨Nat.le_of_ble_eq_true rfl, Nat.le_of_ble_eq_true rfl⟩) rfl 0 rfl rfl (Nat.le_of_ble_eq_true rfl) ⟨Nat.le_of_ble_eq_true rfl, Nat.le_of_ble_eq_true rfl⟩ dX7_passTime_35 (fun r_151 _ hw_152 => ?_)
  have hw_152 : r_151 = 0 := hw_152
  have e_r_151 := hw_152
  show gG p l e (gR 2 0 0 61) s m args below meth c D A 6 Q 0 0 [(xs, .inr (6, [.ref n, .ref fo, .ref wa, .ref we])), (n, .inl (cI, 36, .inl g_nums))] [(cI, .int)] [(5, .int 15), (4, .int 0), (3, .int (32 * sv)), (2, .int 32), (0, .ref xs), (1, .int sv)] 38 [.int r_151, .int (32 * sv)]
  refine g_fold 0 e_r_151 ?_
  refine g_iadd F dX7_passTime_38 ?_
  refine g_fold (32 * sv) (by rw [Int32.add_zero]) ?_
  refine g_istore_n F [(3, .int (32 * sv)), (5, .int 15), (4, .int 0), (2, .int 32), (0, .ref xs), (1, .int sv)] dX7_passTime_39 rfl (by decide) rfl ?_
  refine g_aload_n F 4 dX7_passTime_40 rfl rfl ?_
  refine g_iload F 2 dX7_passTime_41 rfl ?_
  refine g_callVi (k := 0) (n := 0) (b := xs) (As := [.int 0]) (st := []) (wc := [(xs, .inr (6, [.ref n, .ref fo, .ref wa, .ref we])), (n, .inl (cI, 36, .inl g_nums))]) (wr := []) F [0, 1] [] [0] rfl rfl (by decide) rfl (by decide) (by decide) rfl (fun sz => K_X7_swayBehind0 l D xs n fo wa we cI  sz) (cwV 1 hts gX7_passTime_X7_swayBehind rfl rfl rfl (by decide +kernel) ⟨Nat.le_of_ble_eq_true rfl, Nat.le_of_ble_eq_true rfl⟩) rfl 0 rfl rfl (Nat.le_of_ble_eq_true rfl) ⟨Nat.le_of_ble_eq_true rfl, Nat.le_of_ble_eq_true rfl⟩ dX7_passTime_43 (fun r_156 _ hw_157 => ?_)
  have hw_157 : r_156 = 0 := hw_157
  have e_r_156 := hw_157
  show gG p l e (gR 2 0 0 61) s m args below meth c D A 6 Q 0 0 [(xs, .inr (6, [.ref n, .ref fo, .ref wa, .ref we])), (n, .inl (cI, 36, .inl g_nums))] [(cI, .int)] [(3, .int (32 * sv)), (5, .int 15), (4, .int 0), (2, .int 32), (0, .ref xs), (1, .int sv)] 46 [.int r_156]
  refine g_fold 0 e_r_156 ?_
  refine g_istore F [(4, .int 0), (3, .int (32 * sv)), (5, .int 15), (2, .int 32), (0, .ref xs), (1, .int sv)] dX7_passTime_46 (by decide) rfl ?_
  refine g_iinc F (j := 2) 16 [(5, .int 16), (4, .int 0), (3, .int (32 * sv)), (2, .int 32), (0, .ref xs), (1, .int sv)] dX7_passTime_48 rfl (by decide) (by decide) rfl ?_
  refine g_goto F 25 dX7_passTime_51 (by decide) ?_
  refine g_iload F 0 dX7_passTime_25 rfl ?_
  refine g_iload_n F 3 dX7_passTime_27 rfl rfl ?_
  refine g_icmp_ge F 54 dX7_passTime_28 (by decide) (fun h9 => absurd h9 (by decide)) (fun c_28 => ?_)
  refine g_iload_n F 2 dX7_passTime_31 rfl rfl ?_
  refine g_aload_n F 4 dX7_passTime_32 rfl rfl ?_
  refine g_iload F 1 dX7_passTime_33 rfl ?_
  refine g_callVi (k := 0) (n := 0) (b := xs) (As := [.int 0]) (st := [.int (32 * sv)]) (wc := [(xs, .inr (6, [.ref n, .ref fo, .ref wa, .ref we])), (n, .inl (cI, 36, .inl g_nums))]) (wr := []) F [0, 1] [] [0] rfl rfl (by decide) rfl (by decide) (by decide) rfl (fun sz => K_X7_swayAt0 l D xs n fo wa we cI  sz) (cwV 1 hts gX7_passTime_X7_swayAt rfl rfl rfl (by decide +kernel) ⟨Nat.le_of_ble_eq_true rfl, Nat.le_of_ble_eq_true rfl⟩) rfl 0 rfl rfl (Nat.le_of_ble_eq_true rfl) ⟨Nat.le_of_ble_eq_true rfl, Nat.le_of_ble_eq_true rfl⟩ dX7_passTime_35 (fun r_161 _ hw_162 => ?_)
  have hw_162 : r_161 = 0 := hw_162
  have e_r_161 := hw_162
  show gG p l e (gR 2 0 0 61) s m args below meth c D A 6 Q 0 0 [(xs, .inr (6, [.ref n, .ref fo, .ref wa, .ref we])), (n, .inl (cI, 36, .inl g_nums))] [(cI, .int)] [(5, .int 16), (4, .int 0), (3, .int (32 * sv)), (2, .int 32), (0, .ref xs), (1, .int sv)] 38 [.int r_161, .int (32 * sv)]
  refine g_fold 0 e_r_161 ?_
  refine g_iadd F dX7_passTime_38 ?_
  refine g_fold (32 * sv) (by rw [Int32.add_zero]) ?_
  refine g_istore_n F [(3, .int (32 * sv)), (5, .int 16), (4, .int 0), (2, .int 32), (0, .ref xs), (1, .int sv)] dX7_passTime_39 rfl (by decide) rfl ?_
  refine g_aload_n F 4 dX7_passTime_40 rfl rfl ?_
  refine g_iload F 2 dX7_passTime_41 rfl ?_
  refine g_callVi (k := 0) (n := 0) (b := xs) (As := [.int 0]) (st := []) (wc := [(xs, .inr (6, [.ref n, .ref fo, .ref wa, .ref we])), (n, .inl (cI, 36, .inl g_nums))]) (wr := []) F [0, 1] [] [0] rfl rfl (by decide) rfl (by decide) (by decide) rfl (fun sz => K_X7_swayBehind0 l D xs n fo wa we cI  sz) (cwV 1 hts gX7_passTime_X7_swayBehind rfl rfl rfl (by decide +kernel) ⟨Nat.le_of_ble_eq_true rfl, Nat.le_of_ble_eq_true rfl⟩) rfl 0 rfl rfl (Nat.le_of_ble_eq_true rfl) ⟨Nat.le_of_ble_eq_true rfl, Nat.le_of_ble_eq_true rfl⟩ dX7_passTime_43 (fun r_166 _ hw_167 => ?_)
  have hw_167 : r_166 = 0 := hw_167
  have e_r_166 := hw_167
  show gG p l e (gR 2 0 0 61) s m args below meth c D A 6 Q 0 0 [(xs, .inr (6, [.ref n, .ref fo, .ref wa, .ref we])), (n, .inl (cI, 36, .inl g_nums))] [(cI, .int)] [(3, .int (32 * sv)), (5, .int 16), (4, .int 0), (2, .int 32), (0, .ref xs), (1, .int sv)] 46 [.int r_166]
  refine g_fold 0 e_r_166 ?_
  refine g_istore F [(4, .int 0), (3, .int (32 * sv)), (5, .int 16), (2, .int 32), (0, .ref xs), (1, .int sv)] dX7_passTime_46 (by decide) rfl ?_
  refine g_iinc F (j := 2) 17 [(5, .int 17), (4, .int 0), (3, .int (32 * sv)), (2, .int 32), (0, .ref xs), (1, .int sv)] dX7_passTime_48 rfl (by decide) (by decide) rfl ?_
  refine g_goto F 25 dX7_passTime_51 (by decide) ?_
  refine g_iload F 0 dX7_passTime_25 rfl ?_
  refine g_iload_n F 3 dX7_passTime_27 rfl rfl ?_
  refine g_icmp_ge F 54 dX7_passTime_28 (by decide) (fun h9 => absurd h9 (by decide)) (fun c_28 => ?_)
  refine g_iload_n F 2 dX7_passTime_31 rfl rfl ?_
  refine g_aload_n F 4 dX7_passTime_32 rfl rfl ?_
  refine g_iload F 1 dX7_passTime_33 rfl ?_
  refine g_callVi (k := 0) (n := 0) (b := xs) (As := [.int 0]) (st := [.int (32 * sv)]) (wc := [(xs, .inr (6, [.ref n, .ref fo, .ref wa, .ref we])), (n, .inl (cI, 36, .inl g_nums))]) (wr := []) F [0, 1] [] [0] rfl rfl (by decide) rfl (by decide) (by decide) rfl (fun sz => K_X7_swayAt0 l D xs n fo wa we cI  sz) (cwV 1 hts gX7_passTime_X7_swayAt rfl rfl rfl (by decide +kernel) ⟨Nat.le_of_ble_eq_true rfl, Nat.le_of_ble_eq_true rfl⟩) rfl 0 rfl rfl (Nat.le_of_ble_eq_true rfl) ⟨Nat.le_of_ble_eq_true rfl, Nat.le_of_ble_eq_true rfl⟩ dX7_passTime_35 (fun r_171 _ hw_172 => ?_)
  have hw_172 : r_171 = 0 := hw_172
  have e_r_171 := hw_172
  show gG p l e (gR 2 0 0 61) s m args below meth c D A 6 Q 0 0 [(xs, .inr (6, [.ref n, .ref fo, .ref wa, .ref we])), (n, .inl (cI, 36, .inl g_nums))] [(cI, .int)] [(5, .int 17), (4, .int 0), (3, .int (32 * sv)), (2, .int 32), (0, .ref xs), (1, .int sv)] 38 [.int r_171, .int (32 * sv)]
  refine g_fold 0 e_r_171 ?_
  refine g_iadd F dX7_passTime_38 ?_
  refine g_fold (32 * sv) (by rw [Int32.add_zero]) ?_
  refine g_istore_n F [(3, .int (32 * sv)), (5, .int 17), (4, .int 0), (2, .int 32), (0, .ref xs), (1, .int sv)] dX7_passTime_39 rfl (by decide) rfl ?_
  refine g_aload_n F 4 dX7_passTime_40 rfl rfl ?_
  refine g_iload F 2 dX7_passTime_41 rfl ?_
  refine g_callVi (k := 0) (n := 0) (b := xs) (As := [.int 0]) (st := []) (wc := [(xs, .inr (6, [.ref n, .ref fo, .ref wa, .ref we])), (n, .inl (cI, 36, .inl g_nums))]) (wr := []) F [0, 1] [] [0] rfl rfl (by decide) rfl (by decide) (by decide) rfl (fun sz => K_X7_swayBehind0 l D xs n fo wa we cI  sz) (cwV 1 hts gX7_passTime_X7_swayBehind rfl rfl rfl (by decide +kernel) ⟨Nat.le_of_ble_eq_true rfl, Nat.le_of_ble_eq_true rfl⟩) rfl 0 rfl rfl (Nat.le_of_ble_eq_true rfl) ⟨Nat.le_of_ble_eq_true rfl, Nat.le_of_ble_eq_true rfl⟩ dX7_passTime_43 (fun r_176 _ hw_177 => ?_)
  have hw_177 : r_176 = 0 := hw_177
  have e_r_176 := hw_177
  show gG p l e (gR 2 0 0 61) s m args below meth c D A 6 Q 0 0 [(xs, .inr (6, [.ref n, .ref fo, .ref wa, .ref we])), (n, .inl (cI, 36, .inl g_nums))] [(cI, .int)] [(3, .int (32 * sv)), (5, .int 17), (4, .int 0), (2, .int 32), (0, .ref xs), (1, .int sv)] 46 [.int r_176]
  refine g_fold 0 e_r_176 ?_
  refine g_istore F [(4, .int 0), (3, .int (32 * sv)), (5, .int 17), (2, .int 32), (0, .ref xs), (1, .int sv)] dX7_passTime_46 (by decide) rfl ?_
  refine g_iinc F (j := 2) 18 [(5, .int 18), (4, .int 0), (3, .int (32 * sv)), (2, .int 32), (0, .ref xs), (1, .int sv)] dX7_passTime_48 rfl (by decide) (by decide) rfl ?_
  refine g_goto F 25 dX7_passTime_51 (by decide) ?_
  refine g_iload F 0 dX7_passTime_25 rfl ?_
  refine g_iload_n F 3 dX7_passTime_27 rfl rfl ?_
  refine g_icmp_ge F 54 dX7_passTime_28 (by decide) (fun h9 => absurd h9 (by decide)) (fun c_28 => ?_)
  refine g_iload_n F 2 dX7_passTime_31 rfl rfl ?_
  refine g_aload_n F 4 dX7_passTime_32 rfl rfl ?_
  refine g_iload F 1 dX7_passTime_33 rfl ?_
  refine g_callVi (k := 0) (n := 0) (b := xs) (As := [.int 0]) (st := [.int (32 * sv)]) (wc := [(xs, .inr (6, [.ref n, .ref fo, .ref wa, .ref we])), (n, .inl (cI, 36, .inl g_nums))]) (wr := []) F [0, 1] [] [0] rfl rfl (by decide) rfl (by decide) (by decide) rfl (fun sz => K_X7_swayAt0 l D xs n fo wa we cI  sz) (cwV 1 hts gX7_passTime_X7_swayAt rfl rfl rfl (by decide +kernel) ⟨Nat.le_of_ble_eq_true rfl, Nat.le_of_ble_eq_true rfl⟩) rfl 0 rfl rfl (Nat.le_of_ble_eq_true rfl) ⟨Nat.le_of_ble_eq_true rfl, Nat.le_of_ble_eq_true rfl⟩ dX7_passTime_35 (fun r_181 _ hw_182 => ?_)
  have hw_182 : r_181 = 0 := hw_182
  have e_r_181 := hw_182
  show gG p l e (gR 2 0 0 61) s m args below meth c D A 6 Q 0 0 [(xs, .inr (6, [.ref n, .ref fo, .ref wa, .ref we])), (n, .inl (cI, 36, .inl g_nums))] [(cI, .int)] [(5, .int 18), (4, .int 0), (3, .int (32 * sv)), (2, .int 32), (0, .ref xs), (1, .int sv)] 38 [.int r_181, .int (32 * sv)]
  refine g_fold 0 e_r_181 ?_
  refine g_iadd F dX7_passTime_38 ?_
  refine g_fold (32 * sv) (by rw [Int32.add_zero]) ?_
  refine g_istore_n F [(3, .int (32 * sv)), (5, .int 18), (4, .int 0), (2, .int 32), (0, .ref xs), (1, .int sv)] dX7_passTime_39 rfl (by decide) rfl ?_
  refine g_aload_n F 4 dX7_passTime_40 rfl rfl ?_
  refine g_iload F 2 dX7_passTime_41 rfl ?_
  refine g_callVi (k := 0) (n := 0) (b := xs) (As := [.int 0]) (st := []) (wc := [(xs, .inr (6, [.ref n, .ref fo, .ref wa, .ref we])), (n, .inl (cI, 36, .inl g_nums))]) (wr := []) F [0, 1] [] [0] rfl rfl (by decide) rfl (by decide) (by decide) rfl (fun sz => K_X7_swayBehind0 l D xs n fo wa we cI  sz) (cwV 1 hts gX7_passTime_X7_swayBehind rfl rfl rfl (by decide +kernel) ⟨Nat.le_of_ble_eq_true rfl, Nat.le_of_ble_eq_true rfl⟩) rfl 0 rfl rfl (Nat.le_of_ble_eq_true rfl) ⟨Nat.le_of_ble_eq_true rfl, Nat.le_of_ble_eq_true rfl⟩ dX7_passTime_43 (fun r_186 _ hw_187 => ?_)
  have hw_187 : r_186 = 0 := hw_187
  have e_r_186 := hw_187
  show gG p l e (gR 2 0 0 61) s m args below meth c D A 6 Q 0 0 [(xs, .inr (6, [.ref n, .ref fo, .ref wa, .ref we])), (n, .inl (cI, 36, .inl g_nums))] [(cI, .int)] [(3, .int (32 * sv)), (5, .int 18), (4, .int 0), (2, .int 32), (0, .ref xs), (1, .int sv)] 46 [.int r_186]
  refine g_fold 0 e_r_186 ?_
  refine g_istore F [(4, .int 0), (3, .int (32 * sv)), (5, .int 18), (2, .int 32), (0, .ref xs), (1, .int sv)] dX7_passTime_46 (by decide) rfl ?_
  refine g_iinc F (j := 2) 19 [(5, .int 19), (4, .int 0), (3, .int (32 * sv)), (2, .int 32), (0, .ref xs), (1, .int sv)] dX7_passTime_48 rfl (by decide) (by decide) rfl ?_
  refine g_goto F 25 dX7_passTime_51 (by decide) ?_
  refine g_iload F 0 dX7_passTime_25 rfl ?_
  refine g_iload_n F 3 dX7_passTime_27 rfl rfl ?_
  refine g_icmp_ge F 54 dX7_passTime_28 (by decide) (fun h9 => absurd h9 (by decide)) (fun c_28 => ?_)
  refine g_iload_n F 2 dX7_passTime_31 rfl rfl ?_
  refine g_aload_n F 4 dX7_passTime_32 rfl rfl ?_
  refine g_iload F 1 dX7_passTime_33 rfl ?_
  refine g_callVi (k := 0) (n := 0) (b := xs) (As := [.int 0]) (st := [.int (32 * sv)]) (wc := [(xs, .inr (6, [.ref n, .ref fo, .ref wa, .ref we])), (n, .inl (cI, 36, .inl g_nums))]) (wr := []) F [0, 1] [] [0] rfl rfl (by decide) rfl (by decide) (by decide) rfl (fun sz => K_X7_swayAt0 l D xs n fo wa we cI  sz) (cwV 1 hts gX7_passTime_X7_swayAt rfl rfl rfl (by decide +kernel) ⟨Nat.le_of_ble_eq_true rfl, Nat.le_of_ble_eq_true rfl⟩) rfl 0 rfl rfl (Nat.le_of_ble_eq_true rfl) ⟨Nat.le_of_ble_eq_true rfl, Nat.le_of_ble_eq_true rfl⟩ dX7_passTime_35 (fun r_191 _ hw_192 => ?_)
  have hw_192 : r_191 = 0 := hw_192
  have e_r_191 := hw_192
  show gG p l e (gR 2 0 0 61) s m args below meth c D A 6 Q 0 0 [(xs, .inr (6, [.ref n, .ref fo, .ref wa, .ref we])), (n, .inl (cI, 36, .inl g_nums))] [(cI, .int)] [(5, .int 19), (4, .int 0), (3, .int (32 * sv)), (2, .int 32), (0, .ref xs), (1, .int sv)] 38 [.int r_191, .int (32 * sv)]
  refine g_fold 0 e_r_191 ?_
  refine g_iadd F dX7_passTime_38 ?_
  refine g_fold (32 * sv) (by rw [Int32.add_zero]) ?_
  refine g_istore_n F [(3, .int (32 * sv)), (5, .int 19), (4, .int 0), (2, .int 32), (0, .ref xs), (1, .int sv)] dX7_passTime_39 rfl (by decide) rfl ?_
  refine g_aload_n F 4 dX7_passTime_40 rfl rfl ?_
  refine g_iload F 2 dX7_passTime_41 rfl ?_
  refine g_callVi (k := 0) (n := 0) (b := xs) (As := [.int 0]) (st := []) (wc := [(xs, .inr (6, [.ref n, .ref fo, .ref wa, .ref we])), (n, .inl (cI, 36, .inl g_nums))]) (wr := []) F [0, 1] [] [0] rfl rfl (by decide) rfl (by decide) (by decide) rfl (fun sz => K_X7_swayBehind0 l D xs n fo wa we cI  sz) (cwV 1 hts gX7_passTime_X7_swayBehind rfl rfl rfl (by decide +kernel) ⟨Nat.le_of_ble_eq_true rfl, Nat.le_of_ble_eq_true rfl⟩) rfl 0 rfl rfl (Nat.le_of_ble_eq_true rfl) ⟨Nat.le_of_ble_eq_true rfl, Nat.le_of_ble_eq_true rfl⟩ dX7_passTime_43 (fun r_196 _ hw_197 => ?_)
  have hw_197 : r_196 = 0 := hw_197
  have e_r_196 := hw_197
  show gG p l e (gR 2 0 0 61) s m args below meth c D A 6 Q 0 0 [(xs, .inr (6, [.ref n, .ref fo, .ref wa, .ref we])), (n, .inl (cI, 36, .inl g_nums))] [(cI, .int)] [(3, .int (32 * sv)), (5, .int 19), (4, .int 0), (2, .int 32), (0, .ref xs), (1, .int sv)] 46 [.int r_196]
  refine g_fold 0 e_r_196 ?_
  refine g_istore F [(4, .int 0), (3, .int (32 * sv)), (5, .int 19), (2, .int 32), (0, .ref xs), (1, .int sv)] dX7_passTime_46 (by decide) rfl ?_
  refine g_iinc F (j := 2) 20 [(5, .int 20), (4, .int 0), (3, .int (32 * sv)), (2, .int 32), (0, .ref xs), (1, .int sv)] dX7_passTime_48 rfl (by decide) (by decide) rfl ?_
  refine g_goto F 25 dX7_passTime_51 (by decide) ?_
  refine g_iload F 0 dX7_passTime_25 rfl ?_
  refine g_iload_n F 3 dX7_passTime_27 rfl rfl ?_
  refine g_icmp_ge F 54 dX7_passTime_28 (by decide) (fun h9 => absurd h9 (by decide)) (fun c_28 => ?_)
  refine g_iload_n F 2 dX7_passTime_31 rfl rfl ?_
  refine g_aload_n F 4 dX7_passTime_32 rfl rfl ?_
  refine g_iload F 1 dX7_passTime_33 rfl ?_
  refine g_callVi (k := 0) (n := 0) (b := xs) (As := [.int 0]) (st := [.int (32 * sv)]) (wc := [(xs, .inr (6, [.ref n, .ref fo, .ref wa, .ref we])), (n, .inl (cI, 36, .inl g_nums))]) (wr := []) F [0, 1] [] [0] rfl rfl (by decide) rfl (by decide) (by decide) rfl (fun sz => K_X7_swayAt0 l D xs n fo wa we cI  sz) (cwV 1 hts gX7_passTime_X7_swayAt rfl rfl rfl (by decide +kernel) ⟨Nat.le_of_ble_eq_true rfl, Nat.le_of_ble_eq_true rfl⟩) rfl 0 rfl rfl (Nat.le_of_ble_eq_true rfl) ⟨Nat.le_of_ble_eq_true rfl, Nat.le_of_ble_eq_true rfl⟩ dX7_passTime_35 (fun r_201 _ hw_202 => ?_)
  have hw_202 : r_201 = 0 := hw_202
  have e_r_201 := hw_202
  show gG p l e (gR 2 0 0 61) s m args below meth c D A 6 Q 0 0 [(xs, .inr (6, [.ref n, .ref fo, .ref wa, .ref we])), (n, .inl (cI, 36, .inl g_nums))] [(cI, .int)] [(5, .int 20), (4, .int 0), (3, .int (32 * sv)), (2, .int 32), (0, .ref xs), (1, .int sv)] 38 [.int r_201, .int (32 * sv)]
  refine g_fold 0 e_r_201 ?_
  refine g_iadd F dX7_passTime_38 ?_
  refine g_fold (32 * sv) (by rw [Int32.add_zero]) ?_
  refine g_istore_n F [(3, .int (32 * sv)), (5, .int 20), (4, .int 0), (2, .int 32), (0, .ref xs), (1, .int sv)] dX7_passTime_39 rfl (by decide) rfl ?_
  refine g_aload_n F 4 dX7_passTime_40 rfl rfl ?_
  refine g_iload F 2 dX7_passTime_41 rfl ?_
  refine g_callVi (k := 0) (n := 0) (b := xs) (As := [.int 0]) (st := []) (wc := [(xs, .inr (6, [.ref n, .ref fo, .ref wa, .ref we])), (n, .inl (cI, 36, .inl g_nums))]) (wr := []) F [0, 1] [] [0] rfl rfl (by decide) rfl (by decide) (by decide) rfl (fun sz => K_X7_swayBehind0 l D xs n fo wa we cI  sz) (cwV 1 hts gX7_passTime_X7_swayBehind rfl rfl rfl (by decide +kernel) ⟨Nat.le_of_ble_eq_true rfl, Nat.le_of_ble_eq_true rfl⟩) rfl 0 rfl rfl (Nat.le_of_ble_eq_true rfl) ⟨Nat.le_of_ble_eq_true rfl, Nat.le_of_ble_eq_true rfl⟩ dX7_passTime_43 (fun r_206 _ hw_207 => ?_)
  have hw_207 : r_206 = 0 := hw_207
  have e_r_206 := hw_207
  show gG p l e (gR 2 0 0 61) s m args below meth c D A 6 Q 0 0 [(xs, .inr (6, [.ref n, .ref fo, .ref wa, .ref we])), (n, .inl (cI, 36, .inl g_nums))] [(cI, .int)] [(3, .int (32 * sv)), (5, .int 20), (4, .int 0), (2, .int 32), (0, .ref xs), (1, .int sv)] 46 [.int r_206]
  refine g_fold 0 e_r_206 ?_
  refine g_istore F [(4, .int 0), (3, .int (32 * sv)), (5, .int 20), (2, .int 32), (0, .ref xs), (1, .int sv)] dX7_passTime_46 (by decide) rfl ?_
  refine g_iinc F (j := 2) 21 [(5, .int 21), (4, .int 0), (3, .int (32 * sv)), (2, .int 32), (0, .ref xs), (1, .int sv)] dX7_passTime_48 rfl (by decide) (by decide) rfl ?_
  refine g_goto F 25 dX7_passTime_51 (by decide) ?_
  refine g_iload F 0 dX7_passTime_25 rfl ?_
  refine g_iload_n F 3 dX7_passTime_27 rfl rfl ?_
  refine g_icmp_ge F 54 dX7_passTime_28 (by decide) (fun h9 => absurd h9 (by decide)) (fun c_28 => ?_)
  refine g_iload_n F 2 dX7_passTime_31 rfl rfl ?_
  refine g_aload_n F 4 dX7_passTime_32 rfl rfl ?_
  refine g_iload F 1 dX7_passTime_33 rfl ?_
  refine g_callVi (k := 0) (n := 0) (b := xs) (As := [.int 0]) (st := [.int (32 * sv)]) (wc := [(xs, .inr (6, [.ref n, .ref fo, .ref wa, .ref we])), (n, .inl (cI, 36, .inl g_nums))]) (wr := []) F [0, 1] [] [0] rfl rfl (by decide) rfl (by decide) (by decide) rfl (fun sz => K_X7_swayAt0 l D xs n fo wa we cI  sz) (cwV 1 hts gX7_passTime_X7_swayAt rfl rfl rfl (by decide +kernel) ⟨Nat.le_of_ble_eq_true rfl, Nat.le_of_ble_eq_true rfl⟩) rfl 0 rfl rfl (Nat.le_of_ble_eq_true rfl) ⟨Nat.le_of_ble_eq_true rfl, Nat.le_of_ble_eq_true rfl⟩ dX7_passTime_35 (fun r_211 _ hw_212 => ?_)
  have hw_212 : r_211 = 0 := hw_212
  have e_r_211 := hw_212
  show gG p l e (gR 2 0 0 61) s m args below meth c D A 6 Q 0 0 [(xs, .inr (6, [.ref n, .ref fo, .ref wa, .ref we])), (n, .inl (cI, 36, .inl g_nums))] [(cI, .int)] [(5, .int 21), (4, .int 0), (3, .int (32 * sv)), (2, .int 32), (0, .ref xs), (1, .int sv)] 38 [.int r_211, .int (32 * sv)]
  refine g_fold 0 e_r_211 ?_
  refine g_iadd F dX7_passTime_38 ?_
  refine g_fold (32 * sv) (by rw [Int32.add_zero]) ?_
  refine g_istore_n F [(3, .int (32 * sv)), (5, .int 21), (4, .int 0), (2, .int 32), (0, .ref xs), (1, .int sv)] dX7_passTime_39 rfl (by decide) rfl ?_
  refine g_aload_n F 4 dX7_passTime_40 rfl rfl ?_
  refine g_iload F 2 dX7_passTime_41 rfl ?_
  refine g_callVi (k := 0) (n := 0) (b := xs) (As := [.int 0]) (st := []) (wc := [(xs, .inr (6, [.ref n, .ref fo, .ref wa, .ref we])), (n, .inl (cI, 36, .inl g_nums))]) (wr := []) F [0, 1] [] [0] rfl rfl (by decide) rfl (by decide) (by decide) rfl (fun sz => K_X7_swayBehind0 l D xs n fo wa we cI  sz) (cwV 1 hts gX7_passTime_X7_swayBehind rfl rfl rfl (by decide +kernel) ⟨Nat.le_of_ble_eq_true rfl, Nat.le_of_ble_eq_true rfl⟩) rfl 0 rfl rfl (Nat.le_of_ble_eq_true rfl) ⟨Nat.le_of_ble_eq_true rfl, Nat.le_of_ble_eq_true rfl⟩ dX7_passTime_43 (fun r_216 _ hw_217 => ?_)
  have hw_217 : r_216 = 0 := hw_217
  have e_r_216 := hw_217
  show gG p l e (gR 2 0 0 61) s m args below meth c D A 6 Q 0 0 [(xs, .inr (6, [.ref n, .ref fo, .ref wa, .ref we])), (n, .inl (cI, 36, .inl g_nums))] [(cI, .int)] [(3, .int (32 * sv)), (5, .int 21), (4, .int 0), (2, .int 32), (0, .ref xs), (1, .int sv)] 46 [.int r_216]
  refine g_fold 0 e_r_216 ?_
  refine g_istore F [(4, .int 0), (3, .int (32 * sv)), (5, .int 21), (2, .int 32), (0, .ref xs), (1, .int sv)] dX7_passTime_46 (by decide) rfl ?_
  refine g_iinc F (j := 2) 22 [(5, .int 22), (4, .int 0), (3, .int (32 * sv)), (2, .int 32), (0, .ref xs), (1, .int sv)] dX7_passTime_48 rfl (by decide) (by decide) rfl ?_
  refine g_goto F 25 dX7_passTime_51 (by decide) ?_
  refine g_iload F 0 dX7_passTime_25 rfl ?_
  refine g_iload_n F 3 dX7_passTime_27 rfl rfl ?_
  refine g_icmp_ge F 54 dX7_passTime_28 (by decide) (fun h9 => absurd h9 (by decide)) (fun c_28 => ?_)
  refine g_iload_n F 2 dX7_passTime_31 rfl rfl ?_
  refine g_aload_n F 4 dX7_passTime_32 rfl rfl ?_
  refine g_iload F 1 dX7_passTime_33 rfl ?_
  refine g_callVi (k := 0) (n := 0) (b := xs) (As := [.int 0]) (st := [.int (32 * sv)]) (wc := [(xs, .inr (6, [.ref n, .ref fo, .ref wa, .ref we])), (n, .inl (cI, 36, .inl g_nums))]) (wr := []) F [0, 1] [] [0] rfl rfl (by decide) rfl (by decide) (by decide) rfl (fun sz => K_X7_swayAt0 l D xs n fo wa we cI  sz) (cwV 1 hts gX7_passTime_X7_swayAt rfl rfl rfl (by decide +kernel) ⟨Nat.le_of_ble_eq_true rfl, Nat.le_of_ble_eq_true rfl⟩) rfl 0 rfl rfl (Nat.le_of_ble_eq_true rfl) ⟨Nat.le_of_ble_eq_true rfl, Nat.le_of_ble_eq_true rfl⟩ dX7_passTime_35 (fun r_221 _ hw_222 => ?_)
  have hw_222 : r_221 = 0 := hw_222
  have e_r_221 := hw_222
  show gG p l e (gR 2 0 0 61) s m args below meth c D A 6 Q 0 0 [(xs, .inr (6, [.ref n, .ref fo, .ref wa, .ref we])), (n, .inl (cI, 36, .inl g_nums))] [(cI, .int)] [(5, .int 22), (4, .int 0), (3, .int (32 * sv)), (2, .int 32), (0, .ref xs), (1, .int sv)] 38 [.int r_221, .int (32 * sv)]
  refine g_fold 0 e_r_221 ?_
  refine g_iadd F dX7_passTime_38 ?_
  refine g_fold (32 * sv) (by rw [Int32.add_zero]) ?_
  refine g_istore_n F [(3, .int (32 * sv)), (5, .int 22), (4, .int 0), (2, .int 32), (0, .ref xs), (1, .int sv)] dX7_passTime_39 rfl (by decide) rfl ?_
  refine g_aload_n F 4 dX7_passTime_40 rfl rfl ?_
  refine g_iload F 2 dX7_passTime_41 rfl ?_
  refine g_callVi (k := 0) (n := 0) (b := xs) (As := [.int 0]) (st := []) (wc := [(xs, .inr (6, [.ref n, .ref fo, .ref wa, .ref we])), (n, .inl (cI, 36, .inl g_nums))]) (wr := []) F [0, 1] [] [0] rfl rfl (by decide) rfl (by decide) (by decide) rfl (fun sz => K_X7_swayBehind0 l D xs n fo wa we cI  sz) (cwV 1 hts gX7_passTime_X7_swayBehind rfl rfl rfl (by decide +kernel) ⟨Nat.le_of_ble_eq_true rfl, Nat.le_of_ble_eq_true rfl⟩) rfl 0 rfl rfl (Nat.le_of_ble_eq_true rfl) ⟨Nat.le_of_ble_eq_true rfl, Nat.le_of_ble_eq_true rfl⟩ dX7_passTime_43 (fun r_226 _ hw_227 => ?_)
  have hw_227 : r_226 = 0 := hw_227
  have e_r_226 := hw_227
  show gG p l e (gR 2 0 0 61) s m args below meth c D A 6 Q 0 0 [(xs, .inr (6, [.ref n, .ref fo, .ref wa, .ref we])), (n, .inl (cI, 36, .inl g_nums))] [(cI, .int)] [(3, .int (32 * sv)), (5, .int 22), (4, .int 0), (2, .int 32), (0, .ref xs), (1, .int sv)] 46 [.int r_226]
  refine g_fold 0 e_r_226 ?_
  refine g_istore F [(4, .int 0), (3, .int (32 * sv)), (5, .int 22), (2, .int 32), (0, .ref xs), (1, .int sv)] dX7_passTime_46 (by decide) rfl ?_
  refine g_iinc F (j := 2) 23 [(5, .int 23), (4, .int 0), (3, .int (32 * sv)), (2, .int 32), (0, .ref xs), (1, .int sv)] dX7_passTime_48 rfl (by decide) (by decide) rfl ?_
  refine g_goto F 25 dX7_passTime_51 (by decide) ?_
  refine g_iload F 0 dX7_passTime_25 rfl ?_
  refine g_iload_n F 3 dX7_passTime_27 rfl rfl ?_
  refine g_icmp_ge F 54 dX7_passTime_28 (by decide) (fun h9 => absurd h9 (by decide)) (fun c_28 => ?_)
  refine g_iload_n F 2 dX7_passTime_31 rfl rfl ?_
  refine g_aload_n F 4 dX7_passTime_32 rfl rfl ?_
  refine g_iload F 1 dX7_passTime_33 rfl ?_
  refine g_callVi (k := 0) (n := 0) (b := xs) (As := [.int 0]) (st := [.int (32 * sv)]) (wc := [(xs, .inr (6, [.ref n, .ref fo, .ref wa, .ref we])), (n, .inl (cI, 36, .inl g_nums))]) (wr := []) F [0, 1] [] [0] rfl rfl (by decide) rfl (by decide) (by decide) rfl (fun sz => K_X7_swayAt0 l D xs n fo wa we cI  sz) (cwV 1 hts gX7_passTime_X7_swayAt rfl rfl rfl (by decide +kernel) ⟨Nat.le_of_ble_eq_true rfl, Nat.le_of_ble_eq_true rfl⟩) rfl 0 rfl rfl (Nat.le_of_ble_eq_true rfl) ⟨Nat.le_of_ble_eq_true rfl, Nat.le_of_ble_eq_true rfl⟩ dX7_passTime_35 (fun r_231 _ hw_232 => ?_)
  have hw_232 : r_231 = 0 := hw_232
  have e_r_231 := hw_232
  show gG p l e (gR 2 0 0 61) s m args below meth c D A 6 Q 0 0 [(xs, .inr (6, [.ref n, .ref fo, .ref wa, .ref we])), (n, .inl (cI, 36, .inl g_nums))] [(cI, .int)] [(5, .int 23), (4, .int 0), (3, .int (32 * sv)), (2, .int 32), (0, .ref xs), (1, .int sv)] 38 [.int r_231, .int (32 * sv)]
  refine g_fold 0 e_r_231 ?_
  refine g_iadd F dX7_passTime_38 ?_
  refine g_fold (32 * sv) (by rw [Int32.add_zero]) ?_
  refine g_istore_n F [(3, .int (32 * sv)), (5, .int 23), (4, .int 0), (2, .int 32), (0, .ref xs), (1, .int sv)] dX7_passTime_39 rfl (by decide) rfl ?_
  refine g_aload_n F 4 dX7_passTime_40 rfl rfl ?_
  refine g_iload F 2 dX7_passTime_41 rfl ?_
  refine g_callVi (k := 0) (n := 0) (b := xs) (As := [.int 0]) (st := []) (wc := [(xs, .inr (6, [.ref n, .ref fo, .ref wa, .ref we])), (n, .inl (cI, 36, .inl g_nums))]) (wr := []) F [0, 1] [] [0] rfl rfl (by decide) rfl (by decide) (by decide) rfl (fun sz => K_X7_swayBehind0 l D xs n fo wa we cI  sz) (cwV 1 hts gX7_passTime_X7_swayBehind rfl rfl rfl (by decide +kernel) ⟨Nat.le_of_ble_eq_true rfl, Nat.le_of_ble_eq_true rfl⟩) rfl 0 rfl rfl (Nat.le_of_ble_eq_true rfl) ⟨Nat.le_of_ble_eq_true rfl, Nat.le_of_ble_eq_true rfl⟩ dX7_passTime_43 (fun r_236 _ hw_237 => ?_)
  have hw_237 : r_236 = 0 := hw_237
  have e_r_236 := hw_237
  show gG p l e (gR 2 0 0 61) s m args below meth c D A 6 Q 0 0 [(xs, .inr (6, [.ref n, .ref fo, .ref wa, .ref we])), (n, .inl (cI, 36, .inl g_nums))] [(cI, .int)] [(3, .int (32 * sv)), (5, .int 23), (4, .int 0), (2, .int 32), (0, .ref xs), (1, .int sv)] 46 [.int r_236]
  refine g_fold 0 e_r_236 ?_
  refine g_istore F [(4, .int 0), (3, .int (32 * sv)), (5, .int 23), (2, .int 32), (0, .ref xs), (1, .int sv)] dX7_passTime_46 (by decide) rfl ?_
  refine g_iinc F (j := 2) 24 [(5, .int 24), (4, .int 0), (3, .int (32 * sv)), (2, .int 32), (0, .ref xs), (1, .int sv)] dX7_passTime_48 rfl (by decide) (by decide) rfl ?_
  refine g_goto F 25 dX7_passTime_51 (by decide) ?_
  refine g_iload F 0 dX7_passTime_25 rfl ?_
  refine g_iload_n F 3 dX7_passTime_27 rfl rfl ?_
  refine g_icmp_ge F 54 dX7_passTime_28 (by decide) (fun h9 => absurd h9 (by decide)) (fun c_28 => ?_)
  refine g_iload_n F 2 dX7_passTime_31 rfl rfl ?_
  refine g_aload_n F 4 dX7_passTime_32 rfl rfl ?_
  refine g_iload F 1 dX7_passTime_33 rfl ?_
  refine g_callVi (k := 0) (n := 0) (b := xs) (As := [.int 0]) (st := [.int (32 * sv)]) (wc := [(xs, .inr (6, [.ref n, .ref fo, .ref wa, .ref we])), (n, .inl (cI, 36, .inl g_nums))]) (wr := []) F [0, 1] [] [0] rfl rfl (by decide) rfl (by decide) (by decide) rfl (fun sz => K_X7_swayAt0 l D xs n fo wa we cI  sz) (cwV 1 hts gX7_passTime_X7_swayAt rfl rfl rfl (by decide +kernel) ⟨Nat.le_of_ble_eq_true rfl, Nat.le_of_ble_eq_true rfl⟩) rfl 0 rfl rfl (Nat.le_of_ble_eq_true rfl) ⟨Nat.le_of_ble_eq_true rfl, Nat.le_of_ble_eq_true rfl⟩ dX7_passTime_35 (fun r_241 _ hw_242 => ?_)
  have hw_242 : r_241 = 0 := hw_242
  have e_r_241 := hw_242
  show gG p l e (gR 2 0 0 61) s m args below meth c D A 6 Q 0 0 [(xs, .inr (6, [.ref n, .ref fo, .ref wa, .ref we])), (n, .inl (cI, 36, .inl g_nums))] [(cI, .int)] [(5, .int 24), (4, .int 0), (3, .int (32 * sv)), (2, .int 32), (0, .ref xs), (1, .int sv)] 38 [.int r_241, .int (32 * sv)]
  refine g_fold 0 e_r_241 ?_
  refine g_iadd F dX7_passTime_38 ?_
  refine g_fold (32 * sv) (by rw [Int32.add_zero]) ?_
  refine g_istore_n F [(3, .int (32 * sv)), (5, .int 24), (4, .int 0), (2, .int 32), (0, .ref xs), (1, .int sv)] dX7_passTime_39 rfl (by decide) rfl ?_
  refine g_aload_n F 4 dX7_passTime_40 rfl rfl ?_
  refine g_iload F 2 dX7_passTime_41 rfl ?_
  refine g_callVi (k := 0) (n := 0) (b := xs) (As := [.int 0]) (st := []) (wc := [(xs, .inr (6, [.ref n, .ref fo, .ref wa, .ref we])), (n, .inl (cI, 36, .inl g_nums))]) (wr := []) F [0, 1] [] [0] rfl rfl (by decide) rfl (by decide) (by decide) rfl (fun sz => K_X7_swayBehind0 l D xs n fo wa we cI  sz) (cwV 1 hts gX7_passTime_X7_swayBehind rfl rfl rfl (by decide +kernel) ⟨Nat.le_of_ble_eq_true rfl, Nat.le_of_ble_eq_true rfl⟩) rfl 0 rfl rfl (Nat.le_of_ble_eq_true rfl) ⟨Nat.le_of_ble_eq_true rfl, Nat.le_of_ble_eq_true rfl⟩ dX7_passTime_43 (fun r_246 _ hw_247 => ?_)
  have hw_247 : r_246 = 0 := hw_247
  have e_r_246 := hw_247
  show gG p l e (gR 2 0 0 61) s m args below meth c D A 6 Q 0 0 [(xs, .inr (6, [.ref n, .ref fo, .ref wa, .ref we])), (n, .inl (cI, 36, .inl g_nums))] [(cI, .int)] [(3, .int (32 * sv)), (5, .int 24), (4, .int 0), (2, .int 32), (0, .ref xs), (1, .int sv)] 46 [.int r_246]
  refine g_fold 0 e_r_246 ?_
  refine g_istore F [(4, .int 0), (3, .int (32 * sv)), (5, .int 24), (2, .int 32), (0, .ref xs), (1, .int sv)] dX7_passTime_46 (by decide) rfl ?_
  refine g_iinc F (j := 2) 25 [(5, .int 25), (4, .int 0), (3, .int (32 * sv)), (2, .int 32), (0, .ref xs), (1, .int sv)] dX7_passTime_48 rfl (by decide) (by decide) rfl ?_
  refine g_goto F 25 dX7_passTime_51 (by decide) ?_
  refine g_iload F 0 dX7_passTime_25 rfl ?_
  refine g_iload_n F 3 dX7_passTime_27 rfl rfl ?_
  refine g_icmp_ge F 54 dX7_passTime_28 (by decide) (fun h9 => absurd h9 (by decide)) (fun c_28 => ?_)
  refine g_iload_n F 2 dX7_passTime_31 rfl rfl ?_
  refine g_aload_n F 4 dX7_passTime_32 rfl rfl ?_
  refine g_iload F 1 dX7_passTime_33 rfl ?_
  refine g_callVi (k := 0) (n := 0) (b := xs) (As := [.int 0]) (st := [.int (32 * sv)]) (wc := [(xs, .inr (6, [.ref n, .ref fo, .ref wa, .ref we])), (n, .inl (cI, 36, .inl g_nums))]) (wr := []) F [0, 1] [] [0] rfl rfl (by decide) rfl (by decide) (by decide) rfl (fun sz => K_X7_swayAt0 l D xs n fo wa we cI  sz) (cwV 1 hts gX7_passTime_X7_swayAt rfl rfl rfl (by decide +kernel) ⟨Nat.le_of_ble_eq_true rfl, Nat.le_of_ble_eq_true rfl⟩) rfl 0 rfl rfl (Nat.le_of_ble_eq_true rfl) ⟨Nat.le_of_ble_eq_true rfl, Nat.le_of_ble_eq_true rfl⟩ dX7_passTime_35 (fun r_251 _ hw_252 => ?_)
  have hw_252 : r_251 = 0 := hw_252
  have e_r_251 := hw_252
  show gG p l e (gR 2 0 0 61) s m args below meth c D A 6 Q 0 0 [(xs, .inr (6, [.ref n, .ref fo, .ref wa, .ref we])), (n, .inl (cI, 36, .inl g_nums))] [(cI, .int)] [(5, .int 25), (4, .int 0), (3, .int (32 * sv)), (2, .int 32), (0, .ref xs), (1, .int sv)] 38 [.int r_251, .int (32 * sv)]
  refine g_fold 0 e_r_251 ?_
  refine g_iadd F dX7_passTime_38 ?_
  refine g_fold (32 * sv) (by rw [Int32.add_zero]) ?_
  refine g_istore_n F [(3, .int (32 * sv)), (5, .int 25), (4, .int 0), (2, .int 32), (0, .ref xs), (1, .int sv)] dX7_passTime_39 rfl (by decide) rfl ?_
  refine g_aload_n F 4 dX7_passTime_40 rfl rfl ?_
  refine g_iload F 2 dX7_passTime_41 rfl ?_
  refine g_callVi (k := 0) (n := 0) (b := xs) (As := [.int 0]) (st := []) (wc := [(xs, .inr (6, [.ref n, .ref fo, .ref wa, .ref we])), (n, .inl (cI, 36, .inl g_nums))]) (wr := []) F [0, 1] [] [0] rfl rfl (by decide) rfl (by decide) (by decide) rfl (fun sz => K_X7_swayBehind0 l D xs n fo wa we cI  sz) (cwV 1 hts gX7_passTime_X7_swayBehind rfl rfl rfl (by decide +kernel) ⟨Nat.le_of_ble_eq_true rfl, Nat.le_of_ble_eq_true rfl⟩) rfl 0 rfl rfl (Nat.le_of_ble_eq_true rfl) ⟨Nat.le_of_ble_eq_true rfl, Nat.le_of_ble_eq_true rfl⟩ dX7_passTime_43 (fun r_256 _ hw_257 => ?_)
  have hw_257 : r_256 = 0 := hw_257
  have e_r_256 := hw_257
  show gG p l e (gR 2 0 0 61) s m args below meth c D A 6 Q 0 0 [(xs, .inr (6, [.ref n, .ref fo, .ref wa, .ref we])), (n, .inl (cI, 36, .inl g_nums))] [(cI, .int)] [(3, .int (32 * sv)), (5, .int 25), (4, .int 0), (2, .int 32), (0, .ref xs), (1, .int sv)] 46 [.int r_256]
  refine g_fold 0 e_r_256 ?_
  refine g_istore F [(4, .int 0), (3, .int (32 * sv)), (5, .int 25), (2, .int 32), (0, .ref xs), (1, .int sv)] dX7_passTime_46 (by decide) rfl ?_
  refine g_iinc F (j := 2) 26 [(5, .int 26), (4, .int 0), (3, .int (32 * sv)), (2, .int 32), (0, .ref xs), (1, .int sv)] dX7_passTime_48 rfl (by decide) (by decide) rfl ?_
  refine g_goto F 25 dX7_passTime_51 (by decide) ?_
  refine g_iload F 0 dX7_passTime_25 rfl ?_
  refine g_iload_n F 3 dX7_passTime_27 rfl rfl ?_
  refine g_icmp_ge F 54 dX7_passTime_28 (by decide) (fun h9 => absurd h9 (by decide)) (fun c_28 => ?_)
  refine g_iload_n F 2 dX7_passTime_31 rfl rfl ?_
  refine g_aload_n F 4 dX7_passTime_32 rfl rfl ?_
  refine g_iload F 1 dX7_passTime_33 rfl ?_
  refine g_callVi (k := 0) (n := 0) (b := xs) (As := [.int 0]) (st := [.int (32 * sv)]) (wc := [(xs, .inr (6, [.ref n, .ref fo, .ref wa, .ref we])), (n, .inl (cI, 36, .inl g_nums))]) (wr := []) F [0, 1] [] [0] rfl rfl (by decide) rfl (by decide) (by decide) rfl (fun sz => K_X7_swayAt0 l D xs n fo wa we cI  sz) (cwV 1 hts gX7_passTime_X7_swayAt rfl rfl rfl (by decide +kernel) ⟨Nat.le_of_ble_eq_true rfl, Nat.le_of_ble_eq_true rfl⟩) rfl 0 rfl rfl (Nat.le_of_ble_eq_true rfl) ⟨Nat.le_of_ble_eq_true rfl, Nat.le_of_ble_eq_true rfl⟩ dX7_passTime_35 (fun r_261 _ hw_262 => ?_)
  have hw_262 : r_261 = 0 := hw_262
  have e_r_261 := hw_262
  show gG p l e (gR 2 0 0 61) s m args below meth c D A 6 Q 0 0 [(xs, .inr (6, [.ref n, .ref fo, .ref wa, .ref we])), (n, .inl (cI, 36, .inl g_nums))] [(cI, .int)] [(5, .int 26), (4, .int 0), (3, .int (32 * sv)), (2, .int 32), (0, .ref xs), (1, .int sv)] 38 [.int r_261, .int (32 * sv)]
  refine g_fold 0 e_r_261 ?_
  refine g_iadd F dX7_passTime_38 ?_
  refine g_fold (32 * sv) (by rw [Int32.add_zero]) ?_
  refine g_istore_n F [(3, .int (32 * sv)), (5, .int 26), (4, .int 0), (2, .int 32), (0, .ref xs), (1, .int sv)] dX7_passTime_39 rfl (by decide) rfl ?_
  refine g_aload_n F 4 dX7_passTime_40 rfl rfl ?_
  refine g_iload F 2 dX7_passTime_41 rfl ?_
  refine g_callVi (k := 0) (n := 0) (b := xs) (As := [.int 0]) (st := []) (wc := [(xs, .inr (6, [.ref n, .ref fo, .ref wa, .ref we])), (n, .inl (cI, 36, .inl g_nums))]) (wr := []) F [0, 1] [] [0] rfl rfl (by decide) rfl (by decide) (by decide) rfl (fun sz => K_X7_swayBehind0 l D xs n fo wa we cI  sz) (cwV 1 hts gX7_passTime_X7_swayBehind rfl rfl rfl (by decide +kernel) ⟨Nat.le_of_ble_eq_true rfl, Nat.le_of_ble_eq_true rfl⟩) rfl 0 rfl rfl (Nat.le_of_ble_eq_true rfl) ⟨Nat.le_of_ble_eq_true rfl, Nat.le_of_ble_eq_true rfl⟩ dX7_passTime_43 (fun r_266 _ hw_267 => ?_)
  have hw_267 : r_266 = 0 := hw_267
  have e_r_266 := hw_267
  show gG p l e (gR 2 0 0 61) s m args below meth c D A 6 Q 0 0 [(xs, .inr (6, [.ref n, .ref fo, .ref wa, .ref we])), (n, .inl (cI, 36, .inl g_nums))] [(cI, .int)] [(3, .int (32 * sv)), (5, .int 26), (4, .int 0), (2, .int 32), (0, .ref xs), (1, .int sv)] 46 [.int r_266]
  refine g_fold 0 e_r_266 ?_
  refine g_istore F [(4, .int 0), (3, .int (32 * sv)), (5, .int 26), (2, .int 32), (0, .ref xs), (1, .int sv)] dX7_passTime_46 (by decide) rfl ?_
  refine g_iinc F (j := 2) 27 [(5, .int 27), (4, .int 0), (3, .int (32 * sv)), (2, .int 32), (0, .ref xs), (1, .int sv)] dX7_passTime_48 rfl (by decide) (by decide) rfl ?_
  refine g_goto F 25 dX7_passTime_51 (by decide) ?_
  refine g_iload F 0 dX7_passTime_25 rfl ?_
  refine g_iload_n F 3 dX7_passTime_27 rfl rfl ?_
  refine g_icmp_ge F 54 dX7_passTime_28 (by decide) (fun h9 => absurd h9 (by decide)) (fun c_28 => ?_)
  refine g_iload_n F 2 dX7_passTime_31 rfl rfl ?_
  refine g_aload_n F 4 dX7_passTime_32 rfl rfl ?_
  refine g_iload F 1 dX7_passTime_33 rfl ?_
  refine g_callVi (k := 0) (n := 0) (b := xs) (As := [.int 0]) (st := [.int (32 * sv)]) (wc := [(xs, .inr (6, [.ref n, .ref fo, .ref wa, .ref we])), (n, .inl (cI, 36, .inl g_nums))]) (wr := []) F [0, 1] [] [0] rfl rfl (by decide) rfl (by decide) (by decide) rfl (fun sz => K_X7_swayAt0 l D xs n fo wa we cI  sz) (cwV 1 hts gX7_passTime_X7_swayAt rfl rfl rfl (by decide +kernel) ⟨Nat.le_of_ble_eq_true rfl, Nat.le_of_ble_eq_true rfl⟩) rfl 0 rfl rfl (Nat.le_of_ble_eq_true rfl) ⟨Nat.le_of_ble_eq_true rfl, Nat.le_of_ble_eq_true rfl⟩ dX7_passTime_35 (fun r_271 _ hw_272 => ?_)
  have hw_272 : r_271 = 0 := hw_272
  have e_r_271 := hw_272
  show gG p l e (gR 2 0 0 61) s m args below meth c D A 6 Q 0 0 [(xs, .inr (6, [.ref n, .ref fo, .ref wa, .ref we])), (n, .inl (cI, 36, .inl g_nums))] [(cI, .int)] [(5, .int 27), (4, .int 0), (3, .int (32 * sv)), (2, .int 32), (0, .ref xs), (1, .int sv)] 38 [.int r_271, .int (32 * sv)]
  refine g_fold 0 e_r_271 ?_
  refine g_iadd F dX7_passTime_38 ?_
  refine g_fold (32 * sv) (by rw [Int32.add_zero]) ?_
  refine g_istore_n F [(3, .int (32 * sv)), (5, .int 27), (4, .int 0), (2, .int 32), (0, .ref xs), (1, .int sv)] dX7_passTime_39 rfl (by decide) rfl ?_
  refine g_aload_n F 4 dX7_passTime_40 rfl rfl ?_
  refine g_iload F 2 dX7_passTime_41 rfl ?_
  refine g_callVi (k := 0) (n := 0) (b := xs) (As := [.int 0]) (st := []) (wc := [(xs, .inr (6, [.ref n, .ref fo, .ref wa, .ref we])), (n, .inl (cI, 36, .inl g_nums))]) (wr := []) F [0, 1] [] [0] rfl rfl (by decide) rfl (by decide) (by decide) rfl (fun sz => K_X7_swayBehind0 l D xs n fo wa we cI  sz) (cwV 1 hts gX7_passTime_X7_swayBehind rfl rfl rfl (by decide +kernel) ⟨Nat.le_of_ble_eq_true rfl, Nat.le_of_ble_eq_true rfl⟩) rfl 0 rfl rfl (Nat.le_of_ble_eq_true rfl) ⟨Nat.le_of_ble_eq_true rfl, Nat.le_of_ble_eq_true rfl⟩ dX7_passTime_43 (fun r_276 _ hw_277 => ?_)
  have hw_277 : r_276 = 0 := hw_277
  have e_r_276 := hw_277
  show gG p l e (gR 2 0 0 61) s m args below meth c D A 6 Q 0 0 [(xs, .inr (6, [.ref n, .ref fo, .ref wa, .ref we])), (n, .inl (cI, 36, .inl g_nums))] [(cI, .int)] [(3, .int (32 * sv)), (5, .int 27), (4, .int 0), (2, .int 32), (0, .ref xs), (1, .int sv)] 46 [.int r_276]
  refine g_fold 0 e_r_276 ?_
  refine g_istore F [(4, .int 0), (3, .int (32 * sv)), (5, .int 27), (2, .int 32), (0, .ref xs), (1, .int sv)] dX7_passTime_46 (by decide) rfl ?_
  refine g_iinc F (j := 2) 28 [(5, .int 28), (4, .int 0), (3, .int (32 * sv)), (2, .int 32), (0, .ref xs), (1, .int sv)] dX7_passTime_48 rfl (by decide) (by decide) rfl ?_
  refine g_goto F 25 dX7_passTime_51 (by decide) ?_
  refine g_iload F 0 dX7_passTime_25 rfl ?_
  refine g_iload_n F 3 dX7_passTime_27 rfl rfl ?_
  refine g_icmp_ge F 54 dX7_passTime_28 (by decide) (fun h9 => absurd h9 (by decide)) (fun c_28 => ?_)
  refine g_iload_n F 2 dX7_passTime_31 rfl rfl ?_
  refine g_aload_n F 4 dX7_passTime_32 rfl rfl ?_
  refine g_iload F 1 dX7_passTime_33 rfl ?_
  refine g_callVi (k := 0) (n := 0) (b := xs) (As := [.int 0]) (st := [.int (32 * sv)]) (wc := [(xs, .inr (6, [.ref n, .ref fo, .ref wa, .ref we])), (n, .inl (cI, 36, .inl g_nums))]) (wr := []) F [0, 1] [] [0] rfl rfl (by decide) rfl (by decide) (by decide) rfl (fun sz => K_X7_swayAt0 l D xs n fo wa we cI  sz) (cwV 1 hts gX7_passTime_X7_swayAt rfl rfl rfl (by decide +kernel) ⟨Nat.le_of_ble_eq_true rfl, Nat.le_of_ble_eq_true rfl⟩) rfl 0 rfl rfl (Nat.le_of_ble_eq_true rfl) ⟨Nat.le_of_ble_eq_true rfl, Nat.le_of_ble_eq_true rfl⟩ dX7_passTime_35 (fun r_281 _ hw_282 => ?_)
  have hw_282 : r_281 = 0 := hw_282
  have e_r_281 := hw_282
  show gG p l e (gR 2 0 0 61) s m args below meth c D A 6 Q 0 0 [(xs, .inr (6, [.ref n, .ref fo, .ref wa, .ref we])), (n, .inl (cI, 36, .inl g_nums))] [(cI, .int)] [(5, .int 28), (4, .int 0), (3, .int (32 * sv)), (2, .int 32), (0, .ref xs), (1, .int sv)] 38 [.int r_281, .int (32 * sv)]
  refine g_fold 0 e_r_281 ?_
  refine g_iadd F dX7_passTime_38 ?_
  refine g_fold (32 * sv) (by rw [Int32.add_zero]) ?_
  refine g_istore_n F [(3, .int (32 * sv)), (5, .int 28), (4, .int 0), (2, .int 32), (0, .ref xs), (1, .int sv)] dX7_passTime_39 rfl (by decide) rfl ?_
  refine g_aload_n F 4 dX7_passTime_40 rfl rfl ?_
  refine g_iload F 2 dX7_passTime_41 rfl ?_
  refine g_callVi (k := 0) (n := 0) (b := xs) (As := [.int 0]) (st := []) (wc := [(xs, .inr (6, [.ref n, .ref fo, .ref wa, .ref we])), (n, .inl (cI, 36, .inl g_nums))]) (wr := []) F [0, 1] [] [0] rfl rfl (by decide) rfl (by decide) (by decide) rfl (fun sz => K_X7_swayBehind0 l D xs n fo wa we cI  sz) (cwV 1 hts gX7_passTime_X7_swayBehind rfl rfl rfl (by decide +kernel) ⟨Nat.le_of_ble_eq_true rfl, Nat.le_of_ble_eq_true rfl⟩) rfl 0 rfl rfl (Nat.le_of_ble_eq_true rfl) ⟨Nat.le_of_ble_eq_true rfl, Nat.le_of_ble_eq_true rfl⟩ dX7_passTime_43 (fun r_286 _ hw_287 => ?_)
  have hw_287 : r_286 = 0 := hw_287
  have e_r_286 := hw_287
  show gG p l e (gR 2 0 0 61) s m args below meth c D A 6 Q 0 0 [(xs, .inr (6, [.ref n, .ref fo, .ref wa, .ref we])), (n, .inl (cI, 36, .inl g_nums))] [(cI, .int)] [(3, .int (32 * sv)), (5, .int 28), (4, .int 0), (2, .int 32), (0, .ref xs), (1, .int sv)] 46 [.int r_286]
  refine g_fold 0 e_r_286 ?_
  refine g_istore F [(4, .int 0), (3, .int (32 * sv)), (5, .int 28), (2, .int 32), (0, .ref xs), (1, .int sv)] dX7_passTime_46 (by decide) rfl ?_
  refine g_iinc F (j := 2) 29 [(5, .int 29), (4, .int 0), (3, .int (32 * sv)), (2, .int 32), (0, .ref xs), (1, .int sv)] dX7_passTime_48 rfl (by decide) (by decide) rfl ?_
  refine g_goto F 25 dX7_passTime_51 (by decide) ?_
  refine g_iload F 0 dX7_passTime_25 rfl ?_
  refine g_iload_n F 3 dX7_passTime_27 rfl rfl ?_
  refine g_icmp_ge F 54 dX7_passTime_28 (by decide) (fun h9 => absurd h9 (by decide)) (fun c_28 => ?_)
  refine g_iload_n F 2 dX7_passTime_31 rfl rfl ?_
  refine g_aload_n F 4 dX7_passTime_32 rfl rfl ?_
  refine g_iload F 1 dX7_passTime_33 rfl ?_
  refine g_callVi (k := 0) (n := 0) (b := xs) (As := [.int 0]) (st := [.int (32 * sv)]) (wc := [(xs, .inr (6, [.ref n, .ref fo, .ref wa, .ref we])), (n, .inl (cI, 36, .inl g_nums))]) (wr := []) F [0, 1] [] [0] rfl rfl (by decide) rfl (by decide) (by decide) rfl (fun sz => K_X7_swayAt0 l D xs n fo wa we cI  sz) (cwV 1 hts gX7_passTime_X7_swayAt rfl rfl rfl (by decide +kernel) ⟨Nat.le_of_ble_eq_true rfl, Nat.le_of_ble_eq_true rfl⟩) rfl 0 rfl rfl (Nat.le_of_ble_eq_true rfl) ⟨Nat.le_of_ble_eq_true rfl, Nat.le_of_ble_eq_true rfl⟩ dX7_passTime_35 (fun r_291 _ hw_292 => ?_)
  have hw_292 : r_291 = 0 := hw_292
  have e_r_291 := hw_292
  show gG p l e (gR 2 0 0 61) s m args below meth c D A 6 Q 0 0 [(xs, .inr (6, [.ref n, .ref fo, .ref wa, .ref we])), (n, .inl (cI, 36, .inl g_nums))] [(cI, .int)] [(5, .int 29), (4, .int 0), (3, .int (32 * sv)), (2, .int 32), (0, .ref xs), (1, .int sv)] 38 [.int r_291, .int (32 * sv)]
  refine g_fold 0 e_r_291 ?_
  refine g_iadd F dX7_passTime_38 ?_
  refine g_fold (32 * sv) (by rw [Int32.add_zero]) ?_
  refine g_istore_n F [(3, .int (32 * sv)), (5, .int 29), (4, .int 0), (2, .int 32), (0, .ref xs), (1, .int sv)] dX7_passTime_39 rfl (by decide) rfl ?_
  refine g_aload_n F 4 dX7_passTime_40 rfl rfl ?_
  refine g_iload F 2 dX7_passTime_41 rfl ?_
  refine g_callVi (k := 0) (n := 0) (b := xs) (As := [.int 0]) (st := []) (wc := [(xs, .inr (6, [.ref n, .ref fo, .ref wa, .ref we])), (n, .inl (cI, 36, .inl g_nums))]) (wr := []) F [0, 1] [] [0] rfl rfl (by decide) rfl (by decide) (by decide) rfl (fun sz => K_X7_swayBehind0 l D xs n fo wa we cI  sz) (cwV 1 hts gX7_passTime_X7_swayBehind rfl rfl rfl (by decide +kernel) ⟨Nat.le_of_ble_eq_true rfl, Nat.le_of_ble_eq_true rfl⟩) rfl 0 rfl rfl (Nat.le_of_ble_eq_true rfl) ⟨Nat.le_of_ble_eq_true rfl, Nat.le_of_ble_eq_true rfl⟩ dX7_passTime_43 (fun r_296 _ hw_297 => ?_)
  have hw_297 : r_296 = 0 := hw_297
  have e_r_296 := hw_297
  show gG p l e (gR 2 0 0 61) s m args below meth c D A 6 Q 0 0 [(xs, .inr (6, [.ref n, .ref fo, .ref wa, .ref we])), (n, .inl (cI, 36, .inl g_nums))] [(cI, .int)] [(3, .int (32 * sv)), (5, .int 29), (4, .int 0), (2, .int 32), (0, .ref xs), (1, .int sv)] 46 [.int r_296]
  refine g_fold 0 e_r_296 ?_
  refine g_istore F [(4, .int 0), (3, .int (32 * sv)), (5, .int 29), (2, .int 32), (0, .ref xs), (1, .int sv)] dX7_passTime_46 (by decide) rfl ?_
  refine g_iinc F (j := 2) 30 [(5, .int 30), (4, .int 0), (3, .int (32 * sv)), (2, .int 32), (0, .ref xs), (1, .int sv)] dX7_passTime_48 rfl (by decide) (by decide) rfl ?_
  refine g_goto F 25 dX7_passTime_51 (by decide) ?_
  refine g_iload F 0 dX7_passTime_25 rfl ?_
  refine g_iload_n F 3 dX7_passTime_27 rfl rfl ?_
  refine g_icmp_ge F 54 dX7_passTime_28 (by decide) (fun h9 => absurd h9 (by decide)) (fun c_28 => ?_)
  refine g_iload_n F 2 dX7_passTime_31 rfl rfl ?_
  refine g_aload_n F 4 dX7_passTime_32 rfl rfl ?_
  refine g_iload F 1 dX7_passTime_33 rfl ?_
  refine g_callVi (k := 0) (n := 0) (b := xs) (As := [.int 0]) (st := [.int (32 * sv)]) (wc := [(xs, .inr (6, [.ref n, .ref fo, .ref wa, .ref we])), (n, .inl (cI, 36, .inl g_nums))]) (wr := []) F [0, 1] [] [0] rfl rfl (by decide) rfl (by decide) (by decide) rfl (fun sz => K_X7_swayAt0 l D xs n fo wa we cI  sz) (cwV 1 hts gX7_passTime_X7_swayAt rfl rfl rfl (by decide +kernel) ⟨Nat.le_of_ble_eq_true rfl, Nat.le_of_ble_eq_true rfl⟩) rfl 0 rfl rfl (Nat.le_of_ble_eq_true rfl) ⟨Nat.le_of_ble_eq_true rfl, Nat.le_of_ble_eq_true rfl⟩ dX7_passTime_35 (fun r_301 _ hw_302 => ?_)
  have hw_302 : r_301 = 0 := hw_302
  have e_r_301 := hw_302
  show gG p l e (gR 2 0 0 61) s m args below meth c D A 6 Q 0 0 [(xs, .inr (6, [.ref n, .ref fo, .ref wa, .ref we])), (n, .inl (cI, 36, .inl g_nums))] [(cI, .int)] [(5, .int 30), (4, .int 0), (3, .int (32 * sv)), (2, .int 32), (0, .ref xs), (1, .int sv)] 38 [.int r_301, .int (32 * sv)]
  refine g_fold 0 e_r_301 ?_
  refine g_iadd F dX7_passTime_38 ?_
  refine g_fold (32 * sv) (by rw [Int32.add_zero]) ?_
  refine g_istore_n F [(3, .int (32 * sv)), (5, .int 30), (4, .int 0), (2, .int 32), (0, .ref xs), (1, .int sv)] dX7_passTime_39 rfl (by decide) rfl ?_
  refine g_aload_n F 4 dX7_passTime_40 rfl rfl ?_
  refine g_iload F 2 dX7_passTime_41 rfl ?_
  refine g_callVi (k := 0) (n := 0) (b := xs) (As := [.int 0]) (st := []) (wc := [(xs, .inr (6, [.ref n, .ref fo, .ref wa, .ref we])), (n, .inl (cI, 36, .inl g_nums))]) (wr := []) F [0, 1] [] [0] rfl rfl (by decide) rfl (by decide) (by decide) rfl (fun sz => K_X7_swayBehind0 l D xs n fo wa we cI  sz) (cwV 1 hts gX7_passTime_X7_swayBehind rfl rfl rfl (by decide +kernel) ⟨Nat.le_of_ble_eq_true rfl, Nat.le_of_ble_eq_true rfl⟩) rfl 0 rfl rfl (Nat.le_of_ble_eq_true rfl) ⟨Nat.le_of_ble_eq_true rfl, Nat.le_of_ble_eq_true rfl⟩ dX7_passTime_43 (fun r_306 _ hw_307 => ?_)
  have hw_307 : r_306 = 0 := hw_307
  have e_r_306 := hw_307
  show gG p l e (gR 2 0 0 61) s m args below meth c D A 6 Q 0 0 [(xs, .inr (6, [.ref n, .ref fo, .ref wa, .ref we])), (n, .inl (cI, 36, .inl g_nums))] [(cI, .int)] [(3, .int (32 * sv)), (5, .int 30), (4, .int 0), (2, .int 32), (0, .ref xs), (1, .int sv)] 46 [.int r_306]
  refine g_fold 0 e_r_306 ?_
  refine g_istore F [(4, .int 0), (3, .int (32 * sv)), (5, .int 30), (2, .int 32), (0, .ref xs), (1, .int sv)] dX7_passTime_46 (by decide) rfl ?_
  refine g_iinc F (j := 2) 31 [(5, .int 31), (4, .int 0), (3, .int (32 * sv)), (2, .int 32), (0, .ref xs), (1, .int sv)] dX7_passTime_48 rfl (by decide) (by decide) rfl ?_
  refine g_goto F 25 dX7_passTime_51 (by decide) ?_
  refine g_iload F 0 dX7_passTime_25 rfl ?_
  refine g_iload_n F 3 dX7_passTime_27 rfl rfl ?_
  refine g_icmp_ge F 54 dX7_passTime_28 (by decide) (fun h9 => absurd h9 (by decide)) (fun c_28 => ?_)
  refine g_iload_n F 2 dX7_passTime_31 rfl rfl ?_
  refine g_aload_n F 4 dX7_passTime_32 rfl rfl ?_
  refine g_iload F 1 dX7_passTime_33 rfl ?_
  refine g_callVi (k := 0) (n := 0) (b := xs) (As := [.int 0]) (st := [.int (32 * sv)]) (wc := [(xs, .inr (6, [.ref n, .ref fo, .ref wa, .ref we])), (n, .inl (cI, 36, .inl g_nums))]) (wr := []) F [0, 1] [] [0] rfl rfl (by decide) rfl (by decide) (by decide) rfl (fun sz => K_X7_swayAt0 l D xs n fo wa we cI  sz) (cwV 1 hts gX7_passTime_X7_swayAt rfl rfl rfl (by decide +kernel) ⟨Nat.le_of_ble_eq_true rfl, Nat.le_of_ble_eq_true rfl⟩) rfl 0 rfl rfl (Nat.le_of_ble_eq_true rfl) ⟨Nat.le_of_ble_eq_true rfl, Nat.le_of_ble_eq_true rfl⟩ dX7_passTime_35 (fun r_311 _ hw_312 => ?_)
  have hw_312 : r_311 = 0 := hw_312
  have e_r_311 := hw_312
  show gG p l e (gR 2 0 0 61) s m args below meth c D A 6 Q 0 0 [(xs, .inr (6, [.ref n, .ref fo, .ref wa, .ref we])), (n, .inl (cI, 36, .inl g_nums))] [(cI, .int)] [(5, .int 31), (4, .int 0), (3, .int (32 * sv)), (2, .int 32), (0, .ref xs), (1, .int sv)] 38 [.int r_311, .int (32 * sv)]
  refine g_fold 0 e_r_311 ?_
  refine g_iadd F dX7_passTime_38 ?_
  refine g_fold (32 * sv) (by rw [Int32.add_zero]) ?_
  refine g_istore_n F [(3, .int (32 * sv)), (5, .int 31), (4, .int 0), (2, .int 32), (0, .ref xs), (1, .int sv)] dX7_passTime_39 rfl (by decide) rfl ?_
  refine g_aload_n F 4 dX7_passTime_40 rfl rfl ?_
  refine g_iload F 2 dX7_passTime_41 rfl ?_
  refine g_callVi (k := 0) (n := 0) (b := xs) (As := [.int 0]) (st := []) (wc := [(xs, .inr (6, [.ref n, .ref fo, .ref wa, .ref we])), (n, .inl (cI, 36, .inl g_nums))]) (wr := []) F [0, 1] [] [0] rfl rfl (by decide) rfl (by decide) (by decide) rfl (fun sz => K_X7_swayBehind0 l D xs n fo wa we cI  sz) (cwV 1 hts gX7_passTime_X7_swayBehind rfl rfl rfl (by decide +kernel) ⟨Nat.le_of_ble_eq_true rfl, Nat.le_of_ble_eq_true rfl⟩) rfl 0 rfl rfl (Nat.le_of_ble_eq_true rfl) ⟨Nat.le_of_ble_eq_true rfl, Nat.le_of_ble_eq_true rfl⟩ dX7_passTime_43 (fun r_316 _ hw_317 => ?_)
  have hw_317 : r_316 = 0 := hw_317
  have e_r_316 := hw_317
  show gG p l e (gR 2 0 0 61) s m args below meth c D A 6 Q 0 0 [(xs, .inr (6, [.ref n, .ref fo, .ref wa, .ref we])), (n, .inl (cI, 36, .inl g_nums))] [(cI, .int)] [(3, .int (32 * sv)), (5, .int 31), (4, .int 0), (2, .int 32), (0, .ref xs), (1, .int sv)] 46 [.int r_316]
  refine g_fold 0 e_r_316 ?_
  refine g_istore F [(4, .int 0), (3, .int (32 * sv)), (5, .int 31), (2, .int 32), (0, .ref xs), (1, .int sv)] dX7_passTime_46 (by decide) rfl ?_
  refine g_iinc F (j := 2) 32 [(5, .int 32), (4, .int 0), (3, .int (32 * sv)), (2, .int 32), (0, .ref xs), (1, .int sv)] dX7_passTime_48 rfl (by decide) (by decide) rfl ?_
  refine g_goto F 25 dX7_passTime_51 (by decide) ?_
  refine g_iload F 0 dX7_passTime_25 rfl ?_
  refine g_iload_n F 3 dX7_passTime_27 rfl rfl ?_
  refine g_icmp_ge F 54 dX7_passTime_28 (by decide) (fun c_28 => ?_) (fun h9 => absurd (by decide) h9) 
  refine g_iload_n F 2 dX7_passTime_54 rfl rfl ?_
  exact g_iret F hA hQ hr () (rfl) [0, 1] [0] rfl (by decide) rfl rfl dX7_passTime_55

theorem i32_acc (k sv : Int32) : k * sv + sv = (k + 1) * sv := by rw [Int32.add_mul, Int32.one_mul]

theorem dX13_timeOf_0 : decode cX13_timeOf 0 = .ok (.iconst 0, 1) := by decide +kernel
theorem dX13_timeOf_1 : decode cX13_timeOf 1 = .ok (.istore_n 2, 1) := by decide +kernel
theorem dX13_timeOf_2 : decode cX13_timeOf 2 = .ok (.iconst 0, 1) := by decide +kernel
theorem dX13_timeOf_3 : decode cX13_timeOf 3 = .ok (.istore_n 3, 1) := by decide +kernel
theorem dX13_timeOf_4 : decode cX13_timeOf 4 = .ok (.iload_n 3, 1) := by decide +kernel
theorem dX13_timeOf_5 : decode cX13_timeOf 5 = .ok (.aload_n 0, 1) := by decide +kernel
theorem dX13_timeOf_6 : decode cX13_timeOf 6 = .ok (.getfield 199, 3) := by decide +kernel
theorem dX13_timeOf_9 : decode cX13_timeOf 9 = .ok (.iconst 0, 1) := by decide +kernel
theorem dX13_timeOf_10 : decode cX13_timeOf 10 = .ok (.iaload, 1) := by decide +kernel
theorem dX13_timeOf_11 : decode cX13_timeOf 11 = .ok (.aload_n 0, 1) := by decide +kernel
theorem dX13_timeOf_12 : decode cX13_timeOf 12 = .ok (.getfield 199, 3) := by decide +kernel
theorem dX13_timeOf_15 : decode cX13_timeOf 15 = .ok (.bipush 9, 2) := by decide +kernel
theorem dX13_timeOf_17 : decode cX13_timeOf 17 = .ok (.iaload, 1) := by decide +kernel
theorem dX13_timeOf_18 : decode cX13_timeOf 18 = .ok (.imul, 1) := by decide +kernel
theorem dX13_timeOf_19 : decode cX13_timeOf 19 = .ok (.if_icmp .ge 28, 3) := by decide +kernel
theorem dX13_timeOf_22 : decode cX13_timeOf 22 = .ok (.iload_n 2, 1) := by decide +kernel
theorem dX13_timeOf_23 : decode cX13_timeOf 23 = .ok (.iload_n 1, 1) := by decide +kernel
theorem dX13_timeOf_24 : decode cX13_timeOf 24 = .ok (.aload_n 0, 1) := by decide +kernel
theorem dX13_timeOf_25 : decode cX13_timeOf 25 = .ok (.getfield 204, 3) := by decide +kernel
theorem dX13_timeOf_28 : decode cX13_timeOf 28 = .ok (.iload_n 3, 1) := by decide +kernel
theorem dX13_timeOf_29 : decode cX13_timeOf 29 = .ok (.aload_n 0, 1) := by decide +kernel
theorem dX13_timeOf_30 : decode cX13_timeOf 30 = .ok (.getfield 199, 3) := by decide +kernel
theorem dX13_timeOf_33 : decode cX13_timeOf 33 = .ok (.bipush 11, 2) := by decide +kernel
theorem dX13_timeOf_35 : decode cX13_timeOf 35 = .ok (.iaload, 1) := by decide +kernel
theorem dX13_timeOf_36 : decode cX13_timeOf 36 = .ok (.irem, 1) := by decide +kernel
theorem dX13_timeOf_37 : decode cX13_timeOf 37 = .ok (.iaload, 1) := by decide +kernel
theorem dX13_timeOf_38 : decode cX13_timeOf 38 = .ok (.iadd, 1) := by decide +kernel
theorem dX13_timeOf_39 : decode cX13_timeOf 39 = .ok (.iadd, 1) := by decide +kernel
theorem dX13_timeOf_40 : decode cX13_timeOf 40 = .ok (.istore_n 2, 1) := by decide +kernel
theorem dX13_timeOf_41 : decode cX13_timeOf 41 = .ok (.iinc 3 1, 3) := by decide +kernel
theorem dX13_timeOf_44 : decode cX13_timeOf 44 = .ok (.goto (-40), 3) := by decide +kernel
theorem dX13_timeOf_47 : decode cX13_timeOf 47 = .ok (.iload_n 2, 1) := by decide +kernel
theorem dX13_timeOf_48 : decode cX13_timeOf 48 = .ok (.ireturn, 1) := by decide +kernel
set_option maxHeartbeats 4000000 in
set_option maxRecDepth 100000 in
theorem K_X13_timeOf (l : Launch) (D : va_G) (m0 : Nat) (m_stop : Nat) (m_tape : Nat) (i_taped : Int32) (i_length : Int32) (i_from : Int32) (i_behind : Int32) (i_hand : Int32) (i_value : Int32) (i_fault : Int32) (i_faultAt : Int32) (m_rule : Nat) (m_readRule : Nat) (m_teeth : Nat) (m_readTeeth : Nat) (m_sway : Nat) (m_readSway : Nat) (m_isTold : Nat) (m_markKind : Nat) (m_markValue : Nat) (m_marks : Nat) (i_sum : Int32) (i_parts : Int32) (m_pile : Nat) (m_height : Nat) (m_leftPass : Nat) (m_leftTurn : Nat) (m_leftTooth : Nat) (m_leftX : Nat) (i_wear : Int32) (i_cuts : Int32) (m_kept : Nat) (m_keptWear : Nat) (i_deep : Int32) (m_now : Nat) (m_passed : Nat) (i_x : Int32) (i_v : Int32) (i_hasPassed : Int32) (m_planTime : Nat) (m_planMany : Nat) (m_planned : Nat) (m_isQuiet : Nat) (i_plans : Int32) (i_hasPlan : Int32) (m_keptTeeth : Nat) (i_jobs : Int32) (i_orderBest : Int32) (m_jobRing : Nat) (m_jobSpeed : Nat) (m_jobFeed : Nat) (m_jobTurns : Nat) (m_orderRow : Nat) (m_bestRow : Nat) (i_hasOrder : Int32) (m_orderTold : Nat) (i_offers : Int32) (i_heards : Int32) (i_rights : Int32) (i_telling : Int32) (m_offerRing : Nat) (m_offerSpeed : Nat) (m_offerFeed : Nat) (m_offerTurns : Nat) (m_heardOffer : Nat) (m_heardVerdict : Nat) (m_heardAt : Nat) (m_rightOf : Nat) (m_rightVerdict : Nat) (m_rightAt : Nat) (m_verdictOf : Nat) (m_sound : Nat) (m_readSound : Nat) (i_sounds : Int32) (cI : ClassId) (sv : Int32) (sz : Nat) : Ki l yX13_timeOf wsX13_timeOf 1 40 0 0 D [.ref m0, .int sv] [(m0, .inr (12, [.ref m_stop, .ref m_tape, .int i_taped, .int i_length, .int i_from, .int i_behind, .int i_hand, .int i_value, .int i_fault, .int i_faultAt, .ref m_rule, .ref m_readRule, .ref m_teeth, .ref m_readTeeth, .ref m_sway, .ref m_readSway, .ref m_isTold, .ref m_markKind, .ref m_markValue, .ref m_marks, .int i_sum, .int i_parts, .ref m_pile, .ref m_height, .ref m_leftPass, .ref m_leftTurn, .ref m_leftTooth, .ref m_leftX, .int i_wear, .int i_cuts, .ref m_kept, .ref m_keptWear, .int i_deep, .ref m_now, .ref m_passed, .int i_x, .int i_v, .int i_hasPassed, .ref m_planTime, .ref m_planMany, .ref m_planned, .ref m_isQuiet, .int i_plans, .int i_hasPlan, .ref m_keptTeeth, .int i_jobs, .int i_orderBest, .ref m_jobRing, .ref m_jobSpeed, .ref m_jobFeed, .ref m_jobTurns, .ref m_orderRow, .ref m_bestRow, .int i_hasOrder, .ref m_orderTold, .int i_offers, .int i_heards, .int i_rights, .int i_telling, .ref m_offerRing, .ref m_offerSpeed, .ref m_offerFeed, .ref m_offerTurns, .ref m_heardOffer, .ref m_heardVerdict, .ref m_heardAt, .ref m_rightOf, .ref m_rightVerdict, .ref m_rightAt, .ref m_verdictOf, .ref m_sound, .ref m_readSound, .int i_sounds])), (m_rule, .inl (cI, 12, .inl gz_untold)), (m_sway, .inl (cI, 6, .inl (upd (fun _ => 0) 0 0)))] [(cI, .int)] sz (fun (r : Int32) (_ : Unit) => r = (32 * sv)) (fun (_ : Unit) => [(m0, .inr (12, [.ref m_stop, .ref m_tape, .int i_taped, .int i_length, .int i_from, .int i_behind, .int i_hand, .int i_value, .int i_fault, .int i_faultAt, .ref m_rule, .ref m_readRule, .ref m_teeth, .ref m_readTeeth, .ref m_sway, .ref m_readSway, .ref m_isTold, .ref m_markKind, .ref m_markValue, .ref m_marks, .int i_sum, .int i_parts, .ref m_pile, .ref m_height, .ref m_leftPass, .ref m_leftTurn, .ref m_leftTooth, .ref m_leftX, .int i_wear, .int i_cuts, .ref m_kept, .ref m_keptWear, .int i_deep, .ref m_now, .ref m_passed, .int i_x, .int i_v, .int i_hasPassed, .ref m_planTime, .ref m_planMany, .ref m_planned, .ref m_isQuiet, .int i_plans, .int i_hasPlan, .ref m_keptTeeth, .int i_jobs, .int i_orderBest, .ref m_jobRing, .ref m_jobSpeed, .ref m_jobFeed, .ref m_jobTurns, .ref m_orderRow, .ref m_bestRow, .int i_hasOrder, .ref m_orderTold, .int i_offers, .int i_heards, .int i_rights, .int i_telling, .ref m_offerRing, .ref m_offerSpeed, .ref m_offerFeed, .ref m_offerTurns, .ref m_heardOffer, .ref m_heardVerdict, .ref m_heardAt, .ref m_rightOf, .ref m_rightVerdict, .ref m_rightAt, .ref m_verdictOf, .ref m_sound, .ref m_readSound, .int i_sounds])), (m_rule, .inl (cI, 12, .inl gz_untold)), (m_sway, .inl (cI, 6, .inl (upd (fun _ => 0) 0 0)))]) (fun (_ : Unit) => [(cI, .int)]) := by
  unfold Ki
  refine g_ofW (cc := cX13_timeOf) (lv := [(0, .ref m0), (1, .int sv)]) (by decide) rfl (Nat.le_of_ble_eq_true rfl) rfl ?_
  intro p e s m args below meth c A Q hA hQ F hr hnm
  have hts := F.2.2.2.2.1
  have w_0 : (Cond.fieldLink RX13 199 "QuietCutModel" "rule" "[I").before args s = true := hts _ (List.mem_of_getElem? (i := 1) rfl)
  have i_X13 : ∀ w ∈ u_ws RX13 TX13 73, w ∈ wsX13_timeOf := fun _ h => List.mem_cons_of_mem _ (List.mem_append_right _ h)
  have w_1 : (Cond.fieldLink RX13 204 "QuietCutModel" "sway" "[I").before args s = true := hts _ (List.mem_of_getElem? (i := 2) rfl)
  refine g_iconst F 0 dX13_timeOf_0 (by decide) ?_
  refine g_istore_n F [(2, .int 0), (0, .ref m0), (1, .int sv)] dX13_timeOf_1 rfl (by decide) rfl ?_
  refine g_iconst F 0 dX13_timeOf_2 (by decide) ?_
  refine g_istore_n F [(3, .int 0), (2, .int 0), (0, .ref m0), (1, .int sv)] dX13_timeOf_3 rfl (by decide) rfl ?_
  refine g_iload_n F 0 dX13_timeOf_4 rfl rfl ?_
  refine g_aload_n F 2 dX13_timeOf_5 rfl rfl ?_
  refine g_get (C := RX13) (T := TX13) (N := 73) (v := .ref m_rule) F i_X13 0 rfl rfl 10 (by decide) w_0 rfl rfl dX13_timeOf_6 ?_
  refine g_iconst F 0 dX13_timeOf_9 (by decide) ?_
  refine g_iald F 1 0 rfl rfl (by unfold vp_in; decide) dX13_timeOf_10 ?_
  refine g_fold 8 (by rfl) ?_
  refine g_aload_n F 2 dX13_timeOf_11 rfl rfl ?_
  refine g_get (C := RX13) (T := TX13) (N := 73) (v := .ref m_rule) F i_X13 0 rfl rfl 10 (by decide) w_0 rfl rfl dX13_timeOf_12 ?_
  refine g_bipush F 9 dX13_timeOf_15 (by decide) ?_
  refine g_iald F 1 0 rfl rfl (by unfold vp_in; decide) dX13_timeOf_17 ?_
  refine g_fold 4 (by rfl) ?_
  refine g_imul F dX13_timeOf_18 ?_
  refine g_fold 32 (by decide) ?_
  refine g_icmp_ge F 47 dX13_timeOf_19 (by decide) (fun h9 => absurd h9 (by decide)) (fun c_19 => ?_)
  refine g_iload_n F 1 dX13_timeOf_22 rfl rfl ?_
  refine g_iload_n F 3 dX13_timeOf_23 rfl rfl ?_
  refine g_aload_n F 2 dX13_timeOf_24 rfl rfl ?_
  refine g_get (C := RX13) (T := TX13) (N := 73) (v := .ref m_sway) F i_X13 0 rfl rfl 14 (by decide) w_1 rfl rfl dX13_timeOf_25 ?_
  refine g_iload_n F 0 dX13_timeOf_28 rfl rfl ?_
  refine g_aload_n F 2 dX13_timeOf_29 rfl rfl ?_
  refine g_get (C := RX13) (T := TX13) (N := 73) (v := .ref m_rule) F i_X13 0 rfl rfl 10 (by decide) w_0 rfl rfl dX13_timeOf_30 ?_
  refine g_bipush F 11 dX13_timeOf_33 (by decide) ?_
  refine g_iald F 1 0 rfl rfl (by unfold vp_in; decide) dX13_timeOf_35 ?_
  refine g_fold 1 (by rfl) ?_
  refine g_irem F dX13_timeOf_36 (by decide) ?_
  refine g_fold 0 (by decide) ?_
  refine g_iald F 2 0 rfl rfl (by unfold vp_in; decide) dX13_timeOf_37 ?_
  refine g_fold 0 (by rfl) ?_
  refine g_iadd F dX13_timeOf_38 ?_
  refine g_fold sv (by rw [Int32.add_zero]) ?_
  refine g_iadd F dX13_timeOf_39 ?_
  refine g_fold (1 * sv) (by rw [Int32.zero_add, Int32.one_mul]) ?_
  refine g_istore_n F [(2, .int (1 * sv)), (3, .int 0), (0, .ref m0), (1, .int sv)] dX13_timeOf_40 rfl (by decide) rfl ?_
  refine g_iinc F (j := 1) 1 [(3, .int 1), (2, .int (1 * sv)), (0, .ref m0), (1, .int sv)] dX13_timeOf_41 rfl (by decide) (by decide) rfl ?_
  refine g_goto F 4 dX13_timeOf_44 (by decide) ?_
  refine g_iload_n F 0 dX13_timeOf_4 rfl rfl ?_
  refine g_aload_n F 2 dX13_timeOf_5 rfl rfl ?_
  refine g_get (C := RX13) (T := TX13) (N := 73) (v := .ref m_rule) F i_X13 0 rfl rfl 10 (by decide) w_0 rfl rfl dX13_timeOf_6 ?_
  refine g_iconst F 0 dX13_timeOf_9 (by decide) ?_
  refine g_iald F 1 0 rfl rfl (by unfold vp_in; decide) dX13_timeOf_10 ?_
  refine g_fold 8 (by rfl) ?_
  refine g_aload_n F 2 dX13_timeOf_11 rfl rfl ?_
  refine g_get (C := RX13) (T := TX13) (N := 73) (v := .ref m_rule) F i_X13 0 rfl rfl 10 (by decide) w_0 rfl rfl dX13_timeOf_12 ?_
  refine g_bipush F 9 dX13_timeOf_15 (by decide) ?_
  refine g_iald F 1 0 rfl rfl (by unfold vp_in; decide) dX13_timeOf_17 ?_
  refine g_fold 4 (by rfl) ?_
  refine g_imul F dX13_timeOf_18 ?_
  refine g_fold 32 (by decide) ?_
  refine g_icmp_ge F 47 dX13_timeOf_19 (by decide) (fun h9 => absurd h9 (by decide)) (fun c_19 => ?_)
  refine g_iload_n F 1 dX13_timeOf_22 rfl rfl ?_
  refine g_iload_n F 3 dX13_timeOf_23 rfl rfl ?_
  refine g_aload_n F 2 dX13_timeOf_24 rfl rfl ?_
  refine g_get (C := RX13) (T := TX13) (N := 73) (v := .ref m_sway) F i_X13 0 rfl rfl 14 (by decide) w_1 rfl rfl dX13_timeOf_25 ?_
  refine g_iload_n F 0 dX13_timeOf_28 rfl rfl ?_
  refine g_aload_n F 2 dX13_timeOf_29 rfl rfl ?_
  refine g_get (C := RX13) (T := TX13) (N := 73) (v := .ref m_rule) F i_X13 0 rfl rfl 10 (by decide) w_0 rfl rfl dX13_timeOf_30 ?_
  refine g_bipush F 11 dX13_timeOf_33 (by decide) ?_
  refine g_iald F 1 0 rfl rfl (by unfold vp_in; decide) dX13_timeOf_35 ?_
  refine g_fold 1 (by rfl) ?_
  refine g_irem F dX13_timeOf_36 (by decide) ?_
  refine g_fold 0 (by decide) ?_
  refine g_iald F 2 0 rfl rfl (by unfold vp_in; decide) dX13_timeOf_37 ?_
  refine g_fold 0 (by rfl) ?_
  refine g_iadd F dX13_timeOf_38 ?_
  refine g_fold sv (by rw [Int32.add_zero]) ?_
  refine g_iadd F dX13_timeOf_39 ?_
  refine g_fold (2 * sv) ((i32_acc 1 sv)) ?_
  refine g_istore_n F [(2, .int (2 * sv)), (3, .int 1), (0, .ref m0), (1, .int sv)] dX13_timeOf_40 rfl (by decide) rfl ?_
  refine g_iinc F (j := 1) 2 [(3, .int 2), (2, .int (2 * sv)), (0, .ref m0), (1, .int sv)] dX13_timeOf_41 rfl (by decide) (by decide) rfl ?_
  refine g_goto F 4 dX13_timeOf_44 (by decide) ?_
  refine g_iload_n F 0 dX13_timeOf_4 rfl rfl ?_
  refine g_aload_n F 2 dX13_timeOf_5 rfl rfl ?_
  refine g_get (C := RX13) (T := TX13) (N := 73) (v := .ref m_rule) F i_X13 0 rfl rfl 10 (by decide) w_0 rfl rfl dX13_timeOf_6 ?_
  refine g_iconst F 0 dX13_timeOf_9 (by decide) ?_
  refine g_iald F 1 0 rfl rfl (by unfold vp_in; decide) dX13_timeOf_10 ?_
  refine g_fold 8 (by rfl) ?_
  refine g_aload_n F 2 dX13_timeOf_11 rfl rfl ?_
  refine g_get (C := RX13) (T := TX13) (N := 73) (v := .ref m_rule) F i_X13 0 rfl rfl 10 (by decide) w_0 rfl rfl dX13_timeOf_12 ?_
  refine g_bipush F 9 dX13_timeOf_15 (by decide) ?_
  refine g_iald F 1 0 rfl rfl (by unfold vp_in; decide) dX13_timeOf_17 ?_
  refine g_fold 4 (by rfl) ?_
  refine g_imul F dX13_timeOf_18 ?_
  refine g_fold 32 (by decide) ?_
  refine g_icmp_ge F 47 dX13_timeOf_19 (by decide) (fun h9 => absurd h9 (by decide)) (fun c_19 => ?_)
  refine g_iload_n F 1 dX13_timeOf_22 rfl rfl ?_
  refine g_iload_n F 3 dX13_timeOf_23 rfl rfl ?_
  refine g_aload_n F 2 dX13_timeOf_24 rfl rfl ?_
  refine g_get (C := RX13) (T := TX13) (N := 73) (v := .ref m_sway) F i_X13 0 rfl rfl 14 (by decide) w_1 rfl rfl dX13_timeOf_25 ?_
  refine g_iload_n F 0 dX13_timeOf_28 rfl rfl ?_
  refine g_aload_n F 2 dX13_timeOf_29 rfl rfl ?_
  refine g_get (C := RX13) (T := TX13) (N := 73) (v := .ref m_rule) F i_X13 0 rfl rfl 10 (by decide) w_0 rfl rfl dX13_timeOf_30 ?_
  refine g_bipush F 11 dX13_timeOf_33 (by decide) ?_
  refine g_iald F 1 0 rfl rfl (by unfold vp_in; decide) dX13_timeOf_35 ?_
  refine g_fold 1 (by rfl) ?_
  refine g_irem F dX13_timeOf_36 (by decide) ?_
  refine g_fold 0 (by decide) ?_
  refine g_iald F 2 0 rfl rfl (by unfold vp_in; decide) dX13_timeOf_37 ?_
  refine g_fold 0 (by rfl) ?_
  refine g_iadd F dX13_timeOf_38 ?_
  refine g_fold sv (by rw [Int32.add_zero]) ?_
  refine g_iadd F dX13_timeOf_39 ?_
  refine g_fold (3 * sv) ((i32_acc 2 sv)) ?_
  refine g_istore_n F [(2, .int (3 * sv)), (3, .int 2), (0, .ref m0), (1, .int sv)] dX13_timeOf_40 rfl (by decide) rfl ?_
  refine g_iinc F (j := 1) 3 [(3, .int 3), (2, .int (3 * sv)), (0, .ref m0), (1, .int sv)] dX13_timeOf_41 rfl (by decide) (by decide) rfl ?_
  refine g_goto F 4 dX13_timeOf_44 (by decide) ?_
  refine g_iload_n F 0 dX13_timeOf_4 rfl rfl ?_
  refine g_aload_n F 2 dX13_timeOf_5 rfl rfl ?_
  refine g_get (C := RX13) (T := TX13) (N := 73) (v := .ref m_rule) F i_X13 0 rfl rfl 10 (by decide) w_0 rfl rfl dX13_timeOf_6 ?_
  refine g_iconst F 0 dX13_timeOf_9 (by decide) ?_
  refine g_iald F 1 0 rfl rfl (by unfold vp_in; decide) dX13_timeOf_10 ?_
  refine g_fold 8 (by rfl) ?_
  refine g_aload_n F 2 dX13_timeOf_11 rfl rfl ?_
  refine g_get (C := RX13) (T := TX13) (N := 73) (v := .ref m_rule) F i_X13 0 rfl rfl 10 (by decide) w_0 rfl rfl dX13_timeOf_12 ?_
  refine g_bipush F 9 dX13_timeOf_15 (by decide) ?_
  refine g_iald F 1 0 rfl rfl (by unfold vp_in; decide) dX13_timeOf_17 ?_
  refine g_fold 4 (by rfl) ?_
  refine g_imul F dX13_timeOf_18 ?_
  refine g_fold 32 (by decide) ?_
  refine g_icmp_ge F 47 dX13_timeOf_19 (by decide) (fun h9 => absurd h9 (by decide)) (fun c_19 => ?_)
  refine g_iload_n F 1 dX13_timeOf_22 rfl rfl ?_
  refine g_iload_n F 3 dX13_timeOf_23 rfl rfl ?_
  refine g_aload_n F 2 dX13_timeOf_24 rfl rfl ?_
  refine g_get (C := RX13) (T := TX13) (N := 73) (v := .ref m_sway) F i_X13 0 rfl rfl 14 (by decide) w_1 rfl rfl dX13_timeOf_25 ?_
  refine g_iload_n F 0 dX13_timeOf_28 rfl rfl ?_
  refine g_aload_n F 2 dX13_timeOf_29 rfl rfl ?_
  refine g_get (C := RX13) (T := TX13) (N := 73) (v := .ref m_rule) F i_X13 0 rfl rfl 10 (by decide) w_0 rfl rfl dX13_timeOf_30 ?_
  refine g_bipush F 11 dX13_timeOf_33 (by decide) ?_
  refine g_iald F 1 0 rfl rfl (by unfold vp_in; decide) dX13_timeOf_35 ?_
  refine g_fold 1 (by rfl) ?_
  refine g_irem F dX13_timeOf_36 (by decide) ?_
  refine g_fold 0 (by decide) ?_
  refine g_iald F 2 0 rfl rfl (by unfold vp_in; decide) dX13_timeOf_37 ?_
  refine g_fold 0 (by rfl) ?_
  refine g_iadd F dX13_timeOf_38 ?_
  refine g_fold sv (by rw [Int32.add_zero]) ?_
  refine g_iadd F dX13_timeOf_39 ?_
  refine g_fold (4 * sv) ((i32_acc 3 sv)) ?_
  refine g_istore_n F [(2, .int (4 * sv)), (3, .int 3), (0, .ref m0), (1, .int sv)] dX13_timeOf_40 rfl (by decide) rfl ?_
  refine g_iinc F (j := 1) 4 [(3, .int 4), (2, .int (4 * sv)), (0, .ref m0), (1, .int sv)] dX13_timeOf_41 rfl (by decide) (by decide) rfl ?_
  refine g_goto F 4 dX13_timeOf_44 (by decide) ?_
  refine g_iload_n F 0 dX13_timeOf_4 rfl rfl ?_
  refine g_aload_n F 2 dX13_timeOf_5 rfl rfl ?_
  refine g_get (C := RX13) (T := TX13) (N := 73) (v := .ref m_rule) F i_X13 0 rfl rfl 10 (by decide) w_0 rfl rfl dX13_timeOf_6 ?_
  refine g_iconst F 0 dX13_timeOf_9 (by decide) ?_
  refine g_iald F 1 0 rfl rfl (by unfold vp_in; decide) dX13_timeOf_10 ?_
  refine g_fold 8 (by rfl) ?_
  refine g_aload_n F 2 dX13_timeOf_11 rfl rfl ?_
  refine g_get (C := RX13) (T := TX13) (N := 73) (v := .ref m_rule) F i_X13 0 rfl rfl 10 (by decide) w_0 rfl rfl dX13_timeOf_12 ?_
  refine g_bipush F 9 dX13_timeOf_15 (by decide) ?_
  refine g_iald F 1 0 rfl rfl (by unfold vp_in; decide) dX13_timeOf_17 ?_
  refine g_fold 4 (by rfl) ?_
  refine g_imul F dX13_timeOf_18 ?_
  refine g_fold 32 (by decide) ?_
  refine g_icmp_ge F 47 dX13_timeOf_19 (by decide) (fun h9 => absurd h9 (by decide)) (fun c_19 => ?_)
  refine g_iload_n F 1 dX13_timeOf_22 rfl rfl ?_
  refine g_iload_n F 3 dX13_timeOf_23 rfl rfl ?_
  refine g_aload_n F 2 dX13_timeOf_24 rfl rfl ?_
  refine g_get (C := RX13) (T := TX13) (N := 73) (v := .ref m_sway) F i_X13 0 rfl rfl 14 (by decide) w_1 rfl rfl dX13_timeOf_25 ?_
  refine g_iload_n F 0 dX13_timeOf_28 rfl rfl ?_
  refine g_aload_n F 2 dX13_timeOf_29 rfl rfl ?_
  refine g_get (C := RX13) (T := TX13) (N := 73) (v := .ref m_rule) F i_X13 0 rfl rfl 10 (by decide) w_0 rfl rfl dX13_timeOf_30 ?_
  refine g_bipush F 11 dX13_timeOf_33 (by decide) ?_
  refine g_iald F 1 0 rfl rfl (by unfold vp_in; decide) dX13_timeOf_35 ?_
  refine g_fold 1 (by rfl) ?_
  refine g_irem F dX13_timeOf_36 (by decide) ?_
  refine g_fold 0 (by decide) ?_
  refine g_iald F 2 0 rfl rfl (by unfold vp_in; decide) dX13_timeOf_37 ?_
  refine g_fold 0 (by rfl) ?_
  refine g_iadd F dX13_timeOf_38 ?_
  refine g_fold sv (by rw [Int32.add_zero]) ?_
  refine g_iadd F dX13_timeOf_39 ?_
  refine g_fold (5 * sv) ((i32_acc 4 sv)) ?_
  refine g_istore_n F [(2, .int (5 * sv)), (3, .int 4), (0, .ref m0), (1, .int sv)] dX13_timeOf_40 rfl (by decide) rfl ?_
  refine g_iinc F (j := 1) 5 [(3, .int 5), (2, .int (5 * sv)), (0, .ref m0), (1, .int sv)] dX13_timeOf_41 rfl (by decide) (by decide) rfl ?_
  refine g_goto F 4 dX13_timeOf_44 (by decide) ?_
  refine g_iload_n F 0 dX13_timeOf_4 rfl rfl ?_
  refine g_aload_n F 2 dX13_timeOf_5 rfl rfl ?_
  refine g_get (C := RX13) (T := TX13) (N := 73) (v := .ref m_rule) F i_X13 0 rfl rfl 10 (by decide) w_0 rfl rfl dX13_timeOf_6 ?_
  refine g_iconst F 0 dX13_timeOf_9 (by decide) ?_
  refine g_iald F 1 0 rfl rfl (by unfold vp_in; decide) dX13_timeOf_10 ?_
  refine g_fold 8 (by rfl) ?_
  refine g_aload_n F 2 dX13_timeOf_11 rfl rfl ?_
  refine g_get (C := RX13) (T := TX13) (N := 73) (v := .ref m_rule) F i_X13 0 rfl rfl 10 (by decide) w_0 rfl rfl dX13_timeOf_12 ?_
  refine g_bipush F 9 dX13_timeOf_15 (by decide) ?_
  refine g_iald F 1 0 rfl rfl (by unfold vp_in; decide) dX13_timeOf_17 ?_
  refine g_fold 4 (by rfl) ?_
  refine g_imul F dX13_timeOf_18 ?_
  refine g_fold 32 (by decide) ?_
  refine g_icmp_ge F 47 dX13_timeOf_19 (by decide) (fun h9 => absurd h9 (by decide)) (fun c_19 => ?_)
  refine g_iload_n F 1 dX13_timeOf_22 rfl rfl ?_
  refine g_iload_n F 3 dX13_timeOf_23 rfl rfl ?_
  refine g_aload_n F 2 dX13_timeOf_24 rfl rfl ?_
  refine g_get (C := RX13) (T := TX13) (N := 73) (v := .ref m_sway) F i_X13 0 rfl rfl 14 (by decide) w_1 rfl rfl dX13_timeOf_25 ?_
  refine g_iload_n F 0 dX13_timeOf_28 rfl rfl ?_
  refine g_aload_n F 2 dX13_timeOf_29 rfl rfl ?_
  refine g_get (C := RX13) (T := TX13) (N := 73) (v := .ref m_rule) F i_X13 0 rfl rfl 10 (by decide) w_0 rfl rfl dX13_timeOf_30 ?_
  refine g_bipush F 11 dX13_timeOf_33 (by decide) ?_
  refine g_iald F 1 0 rfl rfl (by unfold vp_in; decide) dX13_timeOf_35 ?_
  refine g_fold 1 (by rfl) ?_
  refine g_irem F dX13_timeOf_36 (by decide) ?_
  refine g_fold 0 (by decide) ?_
  refine g_iald F 2 0 rfl rfl (by unfold vp_in; decide) dX13_timeOf_37 ?_
  refine g_fold 0 (by rfl) ?_
  refine g_iadd F dX13_timeOf_38 ?_
  refine g_fold sv (by rw [Int32.add_zero]) ?_
  refine g_iadd F dX13_timeOf_39 ?_
  refine g_fold (6 * sv) ((i32_acc 5 sv)) ?_
  refine g_istore_n F [(2, .int (6 * sv)), (3, .int 5), (0, .ref m0), (1, .int sv)] dX13_timeOf_40 rfl (by decide) rfl ?_
  refine g_iinc F (j := 1) 6 [(3, .int 6), (2, .int (6 * sv)), (0, .ref m0), (1, .int sv)] dX13_timeOf_41 rfl (by decide) (by decide) rfl ?_
  refine g_goto F 4 dX13_timeOf_44 (by decide) ?_
  refine g_iload_n F 0 dX13_timeOf_4 rfl rfl ?_
  refine g_aload_n F 2 dX13_timeOf_5 rfl rfl ?_
  refine g_get (C := RX13) (T := TX13) (N := 73) (v := .ref m_rule) F i_X13 0 rfl rfl 10 (by decide) w_0 rfl rfl dX13_timeOf_6 ?_
  refine g_iconst F 0 dX13_timeOf_9 (by decide) ?_
  refine g_iald F 1 0 rfl rfl (by unfold vp_in; decide) dX13_timeOf_10 ?_
  refine g_fold 8 (by rfl) ?_
  refine g_aload_n F 2 dX13_timeOf_11 rfl rfl ?_
  refine g_get (C := RX13) (T := TX13) (N := 73) (v := .ref m_rule) F i_X13 0 rfl rfl 10 (by decide) w_0 rfl rfl dX13_timeOf_12 ?_
  refine g_bipush F 9 dX13_timeOf_15 (by decide) ?_
  refine g_iald F 1 0 rfl rfl (by unfold vp_in; decide) dX13_timeOf_17 ?_
  refine g_fold 4 (by rfl) ?_
  refine g_imul F dX13_timeOf_18 ?_
  refine g_fold 32 (by decide) ?_
  refine g_icmp_ge F 47 dX13_timeOf_19 (by decide) (fun h9 => absurd h9 (by decide)) (fun c_19 => ?_)
  refine g_iload_n F 1 dX13_timeOf_22 rfl rfl ?_
  refine g_iload_n F 3 dX13_timeOf_23 rfl rfl ?_
  refine g_aload_n F 2 dX13_timeOf_24 rfl rfl ?_
  refine g_get (C := RX13) (T := TX13) (N := 73) (v := .ref m_sway) F i_X13 0 rfl rfl 14 (by decide) w_1 rfl rfl dX13_timeOf_25 ?_
  refine g_iload_n F 0 dX13_timeOf_28 rfl rfl ?_
  refine g_aload_n F 2 dX13_timeOf_29 rfl rfl ?_
  refine g_get (C := RX13) (T := TX13) (N := 73) (v := .ref m_rule) F i_X13 0 rfl rfl 10 (by decide) w_0 rfl rfl dX13_timeOf_30 ?_
  refine g_bipush F 11 dX13_timeOf_33 (by decide) ?_
  refine g_iald F 1 0 rfl rfl (by unfold vp_in; decide) dX13_timeOf_35 ?_
  refine g_fold 1 (by rfl) ?_
  refine g_irem F dX13_timeOf_36 (by decide) ?_
  refine g_fold 0 (by decide) ?_
  refine g_iald F 2 0 rfl rfl (by unfold vp_in; decide) dX13_timeOf_37 ?_
  refine g_fold 0 (by rfl) ?_
  refine g_iadd F dX13_timeOf_38 ?_
  refine g_fold sv (by rw [Int32.add_zero]) ?_
  refine g_iadd F dX13_timeOf_39 ?_
  refine g_fold (7 * sv) ((i32_acc 6 sv)) ?_
  refine g_istore_n F [(2, .int (7 * sv)), (3, .int 6), (0, .ref m0), (1, .int sv)] dX13_timeOf_40 rfl (by decide) rfl ?_
  refine g_iinc F (j := 1) 7 [(3, .int 7), (2, .int (7 * sv)), (0, .ref m0), (1, .int sv)] dX13_timeOf_41 rfl (by decide) (by decide) rfl ?_
  refine g_goto F 4 dX13_timeOf_44 (by decide) ?_
  refine g_iload_n F 0 dX13_timeOf_4 rfl rfl ?_
  refine g_aload_n F 2 dX13_timeOf_5 rfl rfl ?_
  refine g_get (C := RX13) (T := TX13) (N := 73) (v := .ref m_rule) F i_X13 0 rfl rfl 10 (by decide) w_0 rfl rfl dX13_timeOf_6 ?_
  refine g_iconst F 0 dX13_timeOf_9 (by decide) ?_
  refine g_iald F 1 0 rfl rfl (by unfold vp_in; decide) dX13_timeOf_10 ?_
  refine g_fold 8 (by rfl) ?_
  refine g_aload_n F 2 dX13_timeOf_11 rfl rfl ?_
  refine g_get (C := RX13) (T := TX13) (N := 73) (v := .ref m_rule) F i_X13 0 rfl rfl 10 (by decide) w_0 rfl rfl dX13_timeOf_12 ?_
  refine g_bipush F 9 dX13_timeOf_15 (by decide) ?_
  refine g_iald F 1 0 rfl rfl (by unfold vp_in; decide) dX13_timeOf_17 ?_
  refine g_fold 4 (by rfl) ?_
  refine g_imul F dX13_timeOf_18 ?_
  refine g_fold 32 (by decide) ?_
  refine g_icmp_ge F 47 dX13_timeOf_19 (by decide) (fun h9 => absurd h9 (by decide)) (fun c_19 => ?_)
  refine g_iload_n F 1 dX13_timeOf_22 rfl rfl ?_
  refine g_iload_n F 3 dX13_timeOf_23 rfl rfl ?_
  refine g_aload_n F 2 dX13_timeOf_24 rfl rfl ?_
  refine g_get (C := RX13) (T := TX13) (N := 73) (v := .ref m_sway) F i_X13 0 rfl rfl 14 (by decide) w_1 rfl rfl dX13_timeOf_25 ?_
  refine g_iload_n F 0 dX13_timeOf_28 rfl rfl ?_
  refine g_aload_n F 2 dX13_timeOf_29 rfl rfl ?_
  refine g_get (C := RX13) (T := TX13) (N := 73) (v := .ref m_rule) F i_X13 0 rfl rfl 10 (by decide) w_0 rfl rfl dX13_timeOf_30 ?_
  refine g_bipush F 11 dX13_timeOf_33 (by decide) ?_
  refine g_iald F 1 0 rfl rfl (by unfold vp_in; decide) dX13_timeOf_35 ?_
  refine g_fold 1 (by rfl) ?_
  refine g_irem F dX13_timeOf_36 (by decide) ?_
  refine g_fold 0 (by decide) ?_
  refine g_iald F 2 0 rfl rfl (by unfold vp_in; decide) dX13_timeOf_37 ?_
  refine g_fold 0 (by rfl) ?_
  refine g_iadd F dX13_timeOf_38 ?_
  refine g_fold sv (by rw [Int32.add_zero]) ?_
  refine g_iadd F dX13_timeOf_39 ?_
  refine g_fold (8 * sv) ((i32_acc 7 sv)) ?_
  refine g_istore_n F [(2, .int (8 * sv)), (3, .int 7), (0, .ref m0), (1, .int sv)] dX13_timeOf_40 rfl (by decide) rfl ?_
  refine g_iinc F (j := 1) 8 [(3, .int 8), (2, .int (8 * sv)), (0, .ref m0), (1, .int sv)] dX13_timeOf_41 rfl (by decide) (by decide) rfl ?_
  refine g_goto F 4 dX13_timeOf_44 (by decide) ?_
  refine g_iload_n F 0 dX13_timeOf_4 rfl rfl ?_
  refine g_aload_n F 2 dX13_timeOf_5 rfl rfl ?_
  refine g_get (C := RX13) (T := TX13) (N := 73) (v := .ref m_rule) F i_X13 0 rfl rfl 10 (by decide) w_0 rfl rfl dX13_timeOf_6 ?_
  refine g_iconst F 0 dX13_timeOf_9 (by decide) ?_
  refine g_iald F 1 0 rfl rfl (by unfold vp_in; decide) dX13_timeOf_10 ?_
  refine g_fold 8 (by rfl) ?_
  refine g_aload_n F 2 dX13_timeOf_11 rfl rfl ?_
  refine g_get (C := RX13) (T := TX13) (N := 73) (v := .ref m_rule) F i_X13 0 rfl rfl 10 (by decide) w_0 rfl rfl dX13_timeOf_12 ?_
  refine g_bipush F 9 dX13_timeOf_15 (by decide) ?_
  refine g_iald F 1 0 rfl rfl (by unfold vp_in; decide) dX13_timeOf_17 ?_
  refine g_fold 4 (by rfl) ?_
  refine g_imul F dX13_timeOf_18 ?_
  refine g_fold 32 (by decide) ?_
  refine g_icmp_ge F 47 dX13_timeOf_19 (by decide) (fun h9 => absurd h9 (by decide)) (fun c_19 => ?_)
  refine g_iload_n F 1 dX13_timeOf_22 rfl rfl ?_
  refine g_iload_n F 3 dX13_timeOf_23 rfl rfl ?_
  refine g_aload_n F 2 dX13_timeOf_24 rfl rfl ?_
  refine g_get (C := RX13) (T := TX13) (N := 73) (v := .ref m_sway) F i_X13 0 rfl rfl 14 (by decide) w_1 rfl rfl dX13_timeOf_25 ?_
  refine g_iload_n F 0 dX13_timeOf_28 rfl rfl ?_
  refine g_aload_n F 2 dX13_timeOf_29 rfl rfl ?_
  refine g_get (C := RX13) (T := TX13) (N := 73) (v := .ref m_rule) F i_X13 0 rfl rfl 10 (by decide) w_0 rfl rfl dX13_timeOf_30 ?_
  refine g_bipush F 11 dX13_timeOf_33 (by decide) ?_
  refine g_iald F 1 0 rfl rfl (by unfold vp_in; decide) dX13_timeOf_35 ?_
  refine g_fold 1 (by rfl) ?_
  refine g_irem F dX13_timeOf_36 (by decide) ?_
  refine g_fold 0 (by decide) ?_
  refine g_iald F 2 0 rfl rfl (by unfold vp_in; decide) dX13_timeOf_37 ?_
  refine g_fold 0 (by rfl) ?_
  refine g_iadd F dX13_timeOf_38 ?_
  refine g_fold sv (by rw [Int32.add_zero]) ?_
  refine g_iadd F dX13_timeOf_39 ?_
  refine g_fold (9 * sv) ((i32_acc 8 sv)) ?_
  refine g_istore_n F [(2, .int (9 * sv)), (3, .int 8), (0, .ref m0), (1, .int sv)] dX13_timeOf_40 rfl (by decide) rfl ?_
  refine g_iinc F (j := 1) 9 [(3, .int 9), (2, .int (9 * sv)), (0, .ref m0), (1, .int sv)] dX13_timeOf_41 rfl (by decide) (by decide) rfl ?_
  refine g_goto F 4 dX13_timeOf_44 (by decide) ?_
  refine g_iload_n F 0 dX13_timeOf_4 rfl rfl ?_
  refine g_aload_n F 2 dX13_timeOf_5 rfl rfl ?_
  refine g_get (C := RX13) (T := TX13) (N := 73) (v := .ref m_rule) F i_X13 0 rfl rfl 10 (by decide) w_0 rfl rfl dX13_timeOf_6 ?_
  refine g_iconst F 0 dX13_timeOf_9 (by decide) ?_
  refine g_iald F 1 0 rfl rfl (by unfold vp_in; decide) dX13_timeOf_10 ?_
  refine g_fold 8 (by rfl) ?_
  refine g_aload_n F 2 dX13_timeOf_11 rfl rfl ?_
  refine g_get (C := RX13) (T := TX13) (N := 73) (v := .ref m_rule) F i_X13 0 rfl rfl 10 (by decide) w_0 rfl rfl dX13_timeOf_12 ?_
  refine g_bipush F 9 dX13_timeOf_15 (by decide) ?_
  refine g_iald F 1 0 rfl rfl (by unfold vp_in; decide) dX13_timeOf_17 ?_
  refine g_fold 4 (by rfl) ?_
  refine g_imul F dX13_timeOf_18 ?_
  refine g_fold 32 (by decide) ?_
  refine g_icmp_ge F 47 dX13_timeOf_19 (by decide) (fun h9 => absurd h9 (by decide)) (fun c_19 => ?_)
  refine g_iload_n F 1 dX13_timeOf_22 rfl rfl ?_
  refine g_iload_n F 3 dX13_timeOf_23 rfl rfl ?_
  refine g_aload_n F 2 dX13_timeOf_24 rfl rfl ?_
  refine g_get (C := RX13) (T := TX13) (N := 73) (v := .ref m_sway) F i_X13 0 rfl rfl 14 (by decide) w_1 rfl rfl dX13_timeOf_25 ?_
  refine g_iload_n F 0 dX13_timeOf_28 rfl rfl ?_
  refine g_aload_n F 2 dX13_timeOf_29 rfl rfl ?_
  refine g_get (C := RX13) (T := TX13) (N := 73) (v := .ref m_rule) F i_X13 0 rfl rfl 10 (by decide) w_0 rfl rfl dX13_timeOf_30 ?_
  refine g_bipush F 11 dX13_timeOf_33 (by decide) ?_
  refine g_iald F 1 0 rfl rfl (by unfold vp_in; decide) dX13_timeOf_35 ?_
  refine g_fold 1 (by rfl) ?_
  refine g_irem F dX13_timeOf_36 (by decide) ?_
  refine g_fold 0 (by decide) ?_
  refine g_iald F 2 0 rfl rfl (by unfold vp_in; decide) dX13_timeOf_37 ?_
  refine g_fold 0 (by rfl) ?_
  refine g_iadd F dX13_timeOf_38 ?_
  refine g_fold sv (by rw [Int32.add_zero]) ?_
  refine g_iadd F dX13_timeOf_39 ?_
  refine g_fold (10 * sv) ((i32_acc 9 sv)) ?_
  refine g_istore_n F [(2, .int (10 * sv)), (3, .int 9), (0, .ref m0), (1, .int sv)] dX13_timeOf_40 rfl (by decide) rfl ?_
  refine g_iinc F (j := 1) 10 [(3, .int 10), (2, .int (10 * sv)), (0, .ref m0), (1, .int sv)] dX13_timeOf_41 rfl (by decide) (by decide) rfl ?_
  refine g_goto F 4 dX13_timeOf_44 (by decide) ?_
  refine g_iload_n F 0 dX13_timeOf_4 rfl rfl ?_
  refine g_aload_n F 2 dX13_timeOf_5 rfl rfl ?_
  refine g_get (C := RX13) (T := TX13) (N := 73) (v := .ref m_rule) F i_X13 0 rfl rfl 10 (by decide) w_0 rfl rfl dX13_timeOf_6 ?_
  refine g_iconst F 0 dX13_timeOf_9 (by decide) ?_
  refine g_iald F 1 0 rfl rfl (by unfold vp_in; decide) dX13_timeOf_10 ?_
  refine g_fold 8 (by rfl) ?_
  refine g_aload_n F 2 dX13_timeOf_11 rfl rfl ?_
  refine g_get (C := RX13) (T := TX13) (N := 73) (v := .ref m_rule) F i_X13 0 rfl rfl 10 (by decide) w_0 rfl rfl dX13_timeOf_12 ?_
  refine g_bipush F 9 dX13_timeOf_15 (by decide) ?_
  refine g_iald F 1 0 rfl rfl (by unfold vp_in; decide) dX13_timeOf_17 ?_
  refine g_fold 4 (by rfl) ?_
  refine g_imul F dX13_timeOf_18 ?_
  refine g_fold 32 (by decide) ?_
  refine g_icmp_ge F 47 dX13_timeOf_19 (by decide) (fun h9 => absurd h9 (by decide)) (fun c_19 => ?_)
  refine g_iload_n F 1 dX13_timeOf_22 rfl rfl ?_
  refine g_iload_n F 3 dX13_timeOf_23 rfl rfl ?_
  refine g_aload_n F 2 dX13_timeOf_24 rfl rfl ?_
  refine g_get (C := RX13) (T := TX13) (N := 73) (v := .ref m_sway) F i_X13 0 rfl rfl 14 (by decide) w_1 rfl rfl dX13_timeOf_25 ?_
  refine g_iload_n F 0 dX13_timeOf_28 rfl rfl ?_
  refine g_aload_n F 2 dX13_timeOf_29 rfl rfl ?_
  refine g_get (C := RX13) (T := TX13) (N := 73) (v := .ref m_rule) F i_X13 0 rfl rfl 10 (by decide) w_0 rfl rfl dX13_timeOf_30 ?_
  refine g_bipush F 11 dX13_timeOf_33 (by decide) ?_
  refine g_iald F 1 0 rfl rfl (by unfold vp_in; decide) dX13_timeOf_35 ?_
  refine g_fold 1 (by rfl) ?_
  refine g_irem F dX13_timeOf_36 (by decide) ?_
  refine g_fold 0 (by decide) ?_
  refine g_iald F 2 0 rfl rfl (by unfold vp_in; decide) dX13_timeOf_37 ?_
  refine g_fold 0 (by rfl) ?_
  refine g_iadd F dX13_timeOf_38 ?_
  refine g_fold sv (by rw [Int32.add_zero]) ?_
  refine g_iadd F dX13_timeOf_39 ?_
  refine g_fold (11 * sv) ((i32_acc 10 sv)) ?_
  refine g_istore_n F [(2, .int (11 * sv)), (3, .int 10), (0, .ref m0), (1, .int sv)] dX13_timeOf_40 rfl (by decide) rfl ?_
  refine g_iinc F (j := 1) 11 [(3, .int 11), (2, .int (11 * sv)), (0, .ref m0), (1, .int sv)] dX13_timeOf_41 rfl (by decide) (by decide) rfl ?_
  refine g_goto F 4 dX13_timeOf_44 (by decide) ?_
  refine g_iload_n F 0 dX13_timeOf_4 rfl rfl ?_
  refine g_aload_n F 2 dX13_timeOf_5 rfl rfl ?_
  refine g_get (C := RX13) (T := TX13) (N := 73) (v := .ref m_rule) F i_X13 0 rfl rfl 10 (by decide) w_0 rfl rfl dX13_timeOf_6 ?_
  refine g_iconst F 0 dX13_timeOf_9 (by decide) ?_
  refine g_iald F 1 0 rfl rfl (by unfold vp_in; decide) dX13_timeOf_10 ?_
  refine g_fold 8 (by rfl) ?_
  refine g_aload_n F 2 dX13_timeOf_11 rfl rfl ?_
  refine g_get (C := RX13) (T := TX13) (N := 73) (v := .ref m_rule) F i_X13 0 rfl rfl 10 (by decide) w_0 rfl rfl dX13_timeOf_12 ?_
  refine g_bipush F 9 dX13_timeOf_15 (by decide) ?_
  refine g_iald F 1 0 rfl rfl (by unfold vp_in; decide) dX13_timeOf_17 ?_
  refine g_fold 4 (by rfl) ?_
  refine g_imul F dX13_timeOf_18 ?_
  refine g_fold 32 (by decide) ?_
  refine g_icmp_ge F 47 dX13_timeOf_19 (by decide) (fun h9 => absurd h9 (by decide)) (fun c_19 => ?_)
  refine g_iload_n F 1 dX13_timeOf_22 rfl rfl ?_
  refine g_iload_n F 3 dX13_timeOf_23 rfl rfl ?_
  refine g_aload_n F 2 dX13_timeOf_24 rfl rfl ?_
  refine g_get (C := RX13) (T := TX13) (N := 73) (v := .ref m_sway) F i_X13 0 rfl rfl 14 (by decide) w_1 rfl rfl dX13_timeOf_25 ?_
  refine g_iload_n F 0 dX13_timeOf_28 rfl rfl ?_
  refine g_aload_n F 2 dX13_timeOf_29 rfl rfl ?_
  refine g_get (C := RX13) (T := TX13) (N := 73) (v := .ref m_rule) F i_X13 0 rfl rfl 10 (by decide) w_0 rfl rfl dX13_timeOf_30 ?_
  refine g_bipush F 11 dX13_timeOf_33 (by decide) ?_
  refine g_iald F 1 0 rfl rfl (by unfold vp_in; decide) dX13_timeOf_35 ?_
  refine g_fold 1 (by rfl) ?_
  refine g_irem F dX13_timeOf_36 (by decide) ?_
  refine g_fold 0 (by decide) ?_
  refine g_iald F 2 0 rfl rfl (by unfold vp_in; decide) dX13_timeOf_37 ?_
  refine g_fold 0 (by rfl) ?_
  refine g_iadd F dX13_timeOf_38 ?_
  refine g_fold sv (by rw [Int32.add_zero]) ?_
  refine g_iadd F dX13_timeOf_39 ?_
  refine g_fold (12 * sv) ((i32_acc 11 sv)) ?_
  refine g_istore_n F [(2, .int (12 * sv)), (3, .int 11), (0, .ref m0), (1, .int sv)] dX13_timeOf_40 rfl (by decide) rfl ?_
  refine g_iinc F (j := 1) 12 [(3, .int 12), (2, .int (12 * sv)), (0, .ref m0), (1, .int sv)] dX13_timeOf_41 rfl (by decide) (by decide) rfl ?_
  refine g_goto F 4 dX13_timeOf_44 (by decide) ?_
  refine g_iload_n F 0 dX13_timeOf_4 rfl rfl ?_
  refine g_aload_n F 2 dX13_timeOf_5 rfl rfl ?_
  refine g_get (C := RX13) (T := TX13) (N := 73) (v := .ref m_rule) F i_X13 0 rfl rfl 10 (by decide) w_0 rfl rfl dX13_timeOf_6 ?_
  refine g_iconst F 0 dX13_timeOf_9 (by decide) ?_
  refine g_iald F 1 0 rfl rfl (by unfold vp_in; decide) dX13_timeOf_10 ?_
  refine g_fold 8 (by rfl) ?_
  refine g_aload_n F 2 dX13_timeOf_11 rfl rfl ?_
  refine g_get (C := RX13) (T := TX13) (N := 73) (v := .ref m_rule) F i_X13 0 rfl rfl 10 (by decide) w_0 rfl rfl dX13_timeOf_12 ?_
  refine g_bipush F 9 dX13_timeOf_15 (by decide) ?_
  refine g_iald F 1 0 rfl rfl (by unfold vp_in; decide) dX13_timeOf_17 ?_
  refine g_fold 4 (by rfl) ?_
  refine g_imul F dX13_timeOf_18 ?_
  refine g_fold 32 (by decide) ?_
  refine g_icmp_ge F 47 dX13_timeOf_19 (by decide) (fun h9 => absurd h9 (by decide)) (fun c_19 => ?_)
  refine g_iload_n F 1 dX13_timeOf_22 rfl rfl ?_
  refine g_iload_n F 3 dX13_timeOf_23 rfl rfl ?_
  refine g_aload_n F 2 dX13_timeOf_24 rfl rfl ?_
  refine g_get (C := RX13) (T := TX13) (N := 73) (v := .ref m_sway) F i_X13 0 rfl rfl 14 (by decide) w_1 rfl rfl dX13_timeOf_25 ?_
  refine g_iload_n F 0 dX13_timeOf_28 rfl rfl ?_
  refine g_aload_n F 2 dX13_timeOf_29 rfl rfl ?_
  refine g_get (C := RX13) (T := TX13) (N := 73) (v := .ref m_rule) F i_X13 0 rfl rfl 10 (by decide) w_0 rfl rfl dX13_timeOf_30 ?_
  refine g_bipush F 11 dX13_timeOf_33 (by decide) ?_
  refine g_iald F 1 0 rfl rfl (by unfold vp_in; decide) dX13_timeOf_35 ?_
  refine g_fold 1 (by rfl) ?_
  refine g_irem F dX13_timeOf_36 (by decide) ?_
  refine g_fold 0 (by decide) ?_
  refine g_iald F 2 0 rfl rfl (by unfold vp_in; decide) dX13_timeOf_37 ?_
  refine g_fold 0 (by rfl) ?_
  refine g_iadd F dX13_timeOf_38 ?_
  refine g_fold sv (by rw [Int32.add_zero]) ?_
  refine g_iadd F dX13_timeOf_39 ?_
  refine g_fold (13 * sv) ((i32_acc 12 sv)) ?_
  refine g_istore_n F [(2, .int (13 * sv)), (3, .int 12), (0, .ref m0), (1, .int sv)] dX13_timeOf_40 rfl (by decide) rfl ?_
  refine g_iinc F (j := 1) 13 [(3, .int 13), (2, .int (13 * sv)), (0, .ref m0), (1, .int sv)] dX13_timeOf_41 rfl (by decide) (by decide) rfl ?_
  refine g_goto F 4 dX13_timeOf_44 (by decide) ?_
  refine g_iload_n F 0 dX13_timeOf_4 rfl rfl ?_
  refine g_aload_n F 2 dX13_timeOf_5 rfl rfl ?_
  refine g_get (C := RX13) (T := TX13) (N := 73) (v := .ref m_rule) F i_X13 0 rfl rfl 10 (by decide) w_0 rfl rfl dX13_timeOf_6 ?_
  refine g_iconst F 0 dX13_timeOf_9 (by decide) ?_
  refine g_iald F 1 0 rfl rfl (by unfold vp_in; decide) dX13_timeOf_10 ?_
  refine g_fold 8 (by rfl) ?_
  refine g_aload_n F 2 dX13_timeOf_11 rfl rfl ?_
  refine g_get (C := RX13) (T := TX13) (N := 73) (v := .ref m_rule) F i_X13 0 rfl rfl 10 (by decide) w_0 rfl rfl dX13_timeOf_12 ?_
  refine g_bipush F 9 dX13_timeOf_15 (by decide) ?_
  refine g_iald F 1 0 rfl rfl (by unfold vp_in; decide) dX13_timeOf_17 ?_
  refine g_fold 4 (by rfl) ?_
  refine g_imul F dX13_timeOf_18 ?_
  refine g_fold 32 (by decide) ?_
  refine g_icmp_ge F 47 dX13_timeOf_19 (by decide) (fun h9 => absurd h9 (by decide)) (fun c_19 => ?_)
  refine g_iload_n F 1 dX13_timeOf_22 rfl rfl ?_
  refine g_iload_n F 3 dX13_timeOf_23 rfl rfl ?_
  refine g_aload_n F 2 dX13_timeOf_24 rfl rfl ?_
  refine g_get (C := RX13) (T := TX13) (N := 73) (v := .ref m_sway) F i_X13 0 rfl rfl 14 (by decide) w_1 rfl rfl dX13_timeOf_25 ?_
  refine g_iload_n F 0 dX13_timeOf_28 rfl rfl ?_
  refine g_aload_n F 2 dX13_timeOf_29 rfl rfl ?_
  refine g_get (C := RX13) (T := TX13) (N := 73) (v := .ref m_rule) F i_X13 0 rfl rfl 10 (by decide) w_0 rfl rfl dX13_timeOf_30 ?_
  refine g_bipush F 11 dX13_timeOf_33 (by decide) ?_
  refine g_iald F 1 0 rfl rfl (by unfold vp_in; decide) dX13_timeOf_35 ?_
  refine g_fold 1 (by rfl) ?_
  refine g_irem F dX13_timeOf_36 (by decide) ?_
  refine g_fold 0 (by decide) ?_
  refine g_iald F 2 0 rfl rfl (by unfold vp_in; decide) dX13_timeOf_37 ?_
  refine g_fold 0 (by rfl) ?_
  refine g_iadd F dX13_timeOf_38 ?_
  refine g_fold sv (by rw [Int32.add_zero]) ?_
  refine g_iadd F dX13_timeOf_39 ?_
  refine g_fold (14 * sv) ((i32_acc 13 sv)) ?_
  refine g_istore_n F [(2, .int (14 * sv)), (3, .int 13), (0, .ref m0), (1, .int sv)] dX13_timeOf_40 rfl (by decide) rfl ?_
  refine g_iinc F (j := 1) 14 [(3, .int 14), (2, .int (14 * sv)), (0, .ref m0), (1, .int sv)] dX13_timeOf_41 rfl (by decide) (by decide) rfl ?_
  refine g_goto F 4 dX13_timeOf_44 (by decide) ?_
  refine g_iload_n F 0 dX13_timeOf_4 rfl rfl ?_
  refine g_aload_n F 2 dX13_timeOf_5 rfl rfl ?_
  refine g_get (C := RX13) (T := TX13) (N := 73) (v := .ref m_rule) F i_X13 0 rfl rfl 10 (by decide) w_0 rfl rfl dX13_timeOf_6 ?_
  refine g_iconst F 0 dX13_timeOf_9 (by decide) ?_
  refine g_iald F 1 0 rfl rfl (by unfold vp_in; decide) dX13_timeOf_10 ?_
  refine g_fold 8 (by rfl) ?_
  refine g_aload_n F 2 dX13_timeOf_11 rfl rfl ?_
  refine g_get (C := RX13) (T := TX13) (N := 73) (v := .ref m_rule) F i_X13 0 rfl rfl 10 (by decide) w_0 rfl rfl dX13_timeOf_12 ?_
  refine g_bipush F 9 dX13_timeOf_15 (by decide) ?_
  refine g_iald F 1 0 rfl rfl (by unfold vp_in; decide) dX13_timeOf_17 ?_
  refine g_fold 4 (by rfl) ?_
  refine g_imul F dX13_timeOf_18 ?_
  refine g_fold 32 (by decide) ?_
  refine g_icmp_ge F 47 dX13_timeOf_19 (by decide) (fun h9 => absurd h9 (by decide)) (fun c_19 => ?_)
  refine g_iload_n F 1 dX13_timeOf_22 rfl rfl ?_
  refine g_iload_n F 3 dX13_timeOf_23 rfl rfl ?_
  refine g_aload_n F 2 dX13_timeOf_24 rfl rfl ?_
  refine g_get (C := RX13) (T := TX13) (N := 73) (v := .ref m_sway) F i_X13 0 rfl rfl 14 (by decide) w_1 rfl rfl dX13_timeOf_25 ?_
  refine g_iload_n F 0 dX13_timeOf_28 rfl rfl ?_
  refine g_aload_n F 2 dX13_timeOf_29 rfl rfl ?_
  refine g_get (C := RX13) (T := TX13) (N := 73) (v := .ref m_rule) F i_X13 0 rfl rfl 10 (by decide) w_0 rfl rfl dX13_timeOf_30 ?_
  refine g_bipush F 11 dX13_timeOf_33 (by decide) ?_
  refine g_iald F 1 0 rfl rfl (by unfold vp_in; decide) dX13_timeOf_35 ?_
  refine g_fold 1 (by rfl) ?_
  refine g_irem F dX13_timeOf_36 (by decide) ?_
  refine g_fold 0 (by decide) ?_
  refine g_iald F 2 0 rfl rfl (by unfold vp_in; decide) dX13_timeOf_37 ?_
  refine g_fold 0 (by rfl) ?_
  refine g_iadd F dX13_timeOf_38 ?_
  refine g_fold sv (by rw [Int32.add_zero]) ?_
  refine g_iadd F dX13_timeOf_39 ?_
  refine g_fold (15 * sv) ((i32_acc 14 sv)) ?_
  refine g_istore_n F [(2, .int (15 * sv)), (3, .int 14), (0, .ref m0), (1, .int sv)] dX13_timeOf_40 rfl (by decide) rfl ?_
  refine g_iinc F (j := 1) 15 [(3, .int 15), (2, .int (15 * sv)), (0, .ref m0), (1, .int sv)] dX13_timeOf_41 rfl (by decide) (by decide) rfl ?_
  refine g_goto F 4 dX13_timeOf_44 (by decide) ?_
  refine g_iload_n F 0 dX13_timeOf_4 rfl rfl ?_
  refine g_aload_n F 2 dX13_timeOf_5 rfl rfl ?_
  refine g_get (C := RX13) (T := TX13) (N := 73) (v := .ref m_rule) F i_X13 0 rfl rfl 10 (by decide) w_0 rfl rfl dX13_timeOf_6 ?_
  refine g_iconst F 0 dX13_timeOf_9 (by decide) ?_
  refine g_iald F 1 0 rfl rfl (by unfold vp_in; decide) dX13_timeOf_10 ?_
  refine g_fold 8 (by rfl) ?_
  refine g_aload_n F 2 dX13_timeOf_11 rfl rfl ?_
  refine g_get (C := RX13) (T := TX13) (N := 73) (v := .ref m_rule) F i_X13 0 rfl rfl 10 (by decide) w_0 rfl rfl dX13_timeOf_12 ?_
  refine g_bipush F 9 dX13_timeOf_15 (by decide) ?_
  refine g_iald F 1 0 rfl rfl (by unfold vp_in; decide) dX13_timeOf_17 ?_
  refine g_fold 4 (by rfl) ?_
  refine g_imul F dX13_timeOf_18 ?_
  refine g_fold 32 (by decide) ?_
  refine g_icmp_ge F 47 dX13_timeOf_19 (by decide) (fun h9 => absurd h9 (by decide)) (fun c_19 => ?_)
  refine g_iload_n F 1 dX13_timeOf_22 rfl rfl ?_
  refine g_iload_n F 3 dX13_timeOf_23 rfl rfl ?_
  refine g_aload_n F 2 dX13_timeOf_24 rfl rfl ?_
  refine g_get (C := RX13) (T := TX13) (N := 73) (v := .ref m_sway) F i_X13 0 rfl rfl 14 (by decide) w_1 rfl rfl dX13_timeOf_25 ?_
  refine g_iload_n F 0 dX13_timeOf_28 rfl rfl ?_
  refine g_aload_n F 2 dX13_timeOf_29 rfl rfl ?_
  refine g_get (C := RX13) (T := TX13) (N := 73) (v := .ref m_rule) F i_X13 0 rfl rfl 10 (by decide) w_0 rfl rfl dX13_timeOf_30 ?_
  refine g_bipush F 11 dX13_timeOf_33 (by decide) ?_
  refine g_iald F 1 0 rfl rfl (by unfold vp_in; decide) dX13_timeOf_35 ?_
  refine g_fold 1 (by rfl) ?_
  refine g_irem F dX13_timeOf_36 (by decide) ?_
  refine g_fold 0 (by decide) ?_
  refine g_iald F 2 0 rfl rfl (by unfold vp_in; decide) dX13_timeOf_37 ?_
  refine g_fold 0 (by rfl) ?_
  refine g_iadd F dX13_timeOf_38 ?_
  refine g_fold sv (by rw [Int32.add_zero]) ?_
  refine g_iadd F dX13_timeOf_39 ?_
  refine g_fold (16 * sv) ((i32_acc 15 sv)) ?_
  refine g_istore_n F [(2, .int (16 * sv)), (3, .int 15), (0, .ref m0), (1, .int sv)] dX13_timeOf_40 rfl (by decide) rfl ?_
  refine g_iinc F (j := 1) 16 [(3, .int 16), (2, .int (16 * sv)), (0, .ref m0), (1, .int sv)] dX13_timeOf_41 rfl (by decide) (by decide) rfl ?_
  refine g_goto F 4 dX13_timeOf_44 (by decide) ?_
  refine g_iload_n F 0 dX13_timeOf_4 rfl rfl ?_
  refine g_aload_n F 2 dX13_timeOf_5 rfl rfl ?_
  refine g_get (C := RX13) (T := TX13) (N := 73) (v := .ref m_rule) F i_X13 0 rfl rfl 10 (by decide) w_0 rfl rfl dX13_timeOf_6 ?_
  refine g_iconst F 0 dX13_timeOf_9 (by decide) ?_
  refine g_iald F 1 0 rfl rfl (by unfold vp_in; decide) dX13_timeOf_10 ?_
  refine g_fold 8 (by rfl) ?_
  refine g_aload_n F 2 dX13_timeOf_11 rfl rfl ?_
  refine g_get (C := RX13) (T := TX13) (N := 73) (v := .ref m_rule) F i_X13 0 rfl rfl 10 (by decide) w_0 rfl rfl dX13_timeOf_12 ?_
  refine g_bipush F 9 dX13_timeOf_15 (by decide) ?_
  refine g_iald F 1 0 rfl rfl (by unfold vp_in; decide) dX13_timeOf_17 ?_
  refine g_fold 4 (by rfl) ?_
  refine g_imul F dX13_timeOf_18 ?_
  refine g_fold 32 (by decide) ?_
  refine g_icmp_ge F 47 dX13_timeOf_19 (by decide) (fun h9 => absurd h9 (by decide)) (fun c_19 => ?_)
  refine g_iload_n F 1 dX13_timeOf_22 rfl rfl ?_
  refine g_iload_n F 3 dX13_timeOf_23 rfl rfl ?_
  refine g_aload_n F 2 dX13_timeOf_24 rfl rfl ?_
  refine g_get (C := RX13) (T := TX13) (N := 73) (v := .ref m_sway) F i_X13 0 rfl rfl 14 (by decide) w_1 rfl rfl dX13_timeOf_25 ?_
  refine g_iload_n F 0 dX13_timeOf_28 rfl rfl ?_
  refine g_aload_n F 2 dX13_timeOf_29 rfl rfl ?_
  refine g_get (C := RX13) (T := TX13) (N := 73) (v := .ref m_rule) F i_X13 0 rfl rfl 10 (by decide) w_0 rfl rfl dX13_timeOf_30 ?_
  refine g_bipush F 11 dX13_timeOf_33 (by decide) ?_
  refine g_iald F 1 0 rfl rfl (by unfold vp_in; decide) dX13_timeOf_35 ?_
  refine g_fold 1 (by rfl) ?_
  refine g_irem F dX13_timeOf_36 (by decide) ?_
  refine g_fold 0 (by decide) ?_
  refine g_iald F 2 0 rfl rfl (by unfold vp_in; decide) dX13_timeOf_37 ?_
  refine g_fold 0 (by rfl) ?_
  refine g_iadd F dX13_timeOf_38 ?_
  refine g_fold sv (by rw [Int32.add_zero]) ?_
  refine g_iadd F dX13_timeOf_39 ?_
  refine g_fold (17 * sv) ((i32_acc 16 sv)) ?_
  refine g_istore_n F [(2, .int (17 * sv)), (3, .int 16), (0, .ref m0), (1, .int sv)] dX13_timeOf_40 rfl (by decide) rfl ?_
  refine g_iinc F (j := 1) 17 [(3, .int 17), (2, .int (17 * sv)), (0, .ref m0), (1, .int sv)] dX13_timeOf_41 rfl (by decide) (by decide) rfl ?_
  refine g_goto F 4 dX13_timeOf_44 (by decide) ?_
  refine g_iload_n F 0 dX13_timeOf_4 rfl rfl ?_
  refine g_aload_n F 2 dX13_timeOf_5 rfl rfl ?_
  refine g_get (C := RX13) (T := TX13) (N := 73) (v := .ref m_rule) F i_X13 0 rfl rfl 10 (by decide) w_0 rfl rfl dX13_timeOf_6 ?_
  refine g_iconst F 0 dX13_timeOf_9 (by decide) ?_
  refine g_iald F 1 0 rfl rfl (by unfold vp_in; decide) dX13_timeOf_10 ?_
  refine g_fold 8 (by rfl) ?_
  refine g_aload_n F 2 dX13_timeOf_11 rfl rfl ?_
  refine g_get (C := RX13) (T := TX13) (N := 73) (v := .ref m_rule) F i_X13 0 rfl rfl 10 (by decide) w_0 rfl rfl dX13_timeOf_12 ?_
  refine g_bipush F 9 dX13_timeOf_15 (by decide) ?_
  refine g_iald F 1 0 rfl rfl (by unfold vp_in; decide) dX13_timeOf_17 ?_
  refine g_fold 4 (by rfl) ?_
  refine g_imul F dX13_timeOf_18 ?_
  refine g_fold 32 (by decide) ?_
  refine g_icmp_ge F 47 dX13_timeOf_19 (by decide) (fun h9 => absurd h9 (by decide)) (fun c_19 => ?_)
  refine g_iload_n F 1 dX13_timeOf_22 rfl rfl ?_
  refine g_iload_n F 3 dX13_timeOf_23 rfl rfl ?_
  refine g_aload_n F 2 dX13_timeOf_24 rfl rfl ?_
  refine g_get (C := RX13) (T := TX13) (N := 73) (v := .ref m_sway) F i_X13 0 rfl rfl 14 (by decide) w_1 rfl rfl dX13_timeOf_25 ?_
  refine g_iload_n F 0 dX13_timeOf_28 rfl rfl ?_
  refine g_aload_n F 2 dX13_timeOf_29 rfl rfl ?_
  refine g_get (C := RX13) (T := TX13) (N := 73) (v := .ref m_rule) F i_X13 0 rfl rfl 10 (by decide) w_0 rfl rfl dX13_timeOf_30 ?_
  refine g_bipush F 11 dX13_timeOf_33 (by decide) ?_
  refine g_iald F 1 0 rfl rfl (by unfold vp_in; decide) dX13_timeOf_35 ?_
  refine g_fold 1 (by rfl) ?_
  refine g_irem F dX13_timeOf_36 (by decide) ?_
  refine g_fold 0 (by decide) ?_
  refine g_iald F 2 0 rfl rfl (by unfold vp_in; decide) dX13_timeOf_37 ?_
  refine g_fold 0 (by rfl) ?_
  refine g_iadd F dX13_timeOf_38 ?_
  refine g_fold sv (by rw [Int32.add_zero]) ?_
  refine g_iadd F dX13_timeOf_39 ?_
  refine g_fold (18 * sv) ((i32_acc 17 sv)) ?_
  refine g_istore_n F [(2, .int (18 * sv)), (3, .int 17), (0, .ref m0), (1, .int sv)] dX13_timeOf_40 rfl (by decide) rfl ?_
  refine g_iinc F (j := 1) 18 [(3, .int 18), (2, .int (18 * sv)), (0, .ref m0), (1, .int sv)] dX13_timeOf_41 rfl (by decide) (by decide) rfl ?_
  refine g_goto F 4 dX13_timeOf_44 (by decide) ?_
  refine g_iload_n F 0 dX13_timeOf_4 rfl rfl ?_
  refine g_aload_n F 2 dX13_timeOf_5 rfl rfl ?_
  refine g_get (C := RX13) (T := TX13) (N := 73) (v := .ref m_rule) F i_X13 0 rfl rfl 10 (by decide) w_0 rfl rfl dX13_timeOf_6 ?_
  refine g_iconst F 0 dX13_timeOf_9 (by decide) ?_
  refine g_iald F 1 0 rfl rfl (by unfold vp_in; decide) dX13_timeOf_10 ?_
  refine g_fold 8 (by rfl) ?_
  refine g_aload_n F 2 dX13_timeOf_11 rfl rfl ?_
  refine g_get (C := RX13) (T := TX13) (N := 73) (v := .ref m_rule) F i_X13 0 rfl rfl 10 (by decide) w_0 rfl rfl dX13_timeOf_12 ?_
  refine g_bipush F 9 dX13_timeOf_15 (by decide) ?_
  refine g_iald F 1 0 rfl rfl (by unfold vp_in; decide) dX13_timeOf_17 ?_
  refine g_fold 4 (by rfl) ?_
  refine g_imul F dX13_timeOf_18 ?_
  refine g_fold 32 (by decide) ?_
  refine g_icmp_ge F 47 dX13_timeOf_19 (by decide) (fun h9 => absurd h9 (by decide)) (fun c_19 => ?_)
  refine g_iload_n F 1 dX13_timeOf_22 rfl rfl ?_
  refine g_iload_n F 3 dX13_timeOf_23 rfl rfl ?_
  refine g_aload_n F 2 dX13_timeOf_24 rfl rfl ?_
  refine g_get (C := RX13) (T := TX13) (N := 73) (v := .ref m_sway) F i_X13 0 rfl rfl 14 (by decide) w_1 rfl rfl dX13_timeOf_25 ?_
  refine g_iload_n F 0 dX13_timeOf_28 rfl rfl ?_
  refine g_aload_n F 2 dX13_timeOf_29 rfl rfl ?_
  refine g_get (C := RX13) (T := TX13) (N := 73) (v := .ref m_rule) F i_X13 0 rfl rfl 10 (by decide) w_0 rfl rfl dX13_timeOf_30 ?_
  refine g_bipush F 11 dX13_timeOf_33 (by decide) ?_
  refine g_iald F 1 0 rfl rfl (by unfold vp_in; decide) dX13_timeOf_35 ?_
  refine g_fold 1 (by rfl) ?_
  refine g_irem F dX13_timeOf_36 (by decide) ?_
  refine g_fold 0 (by decide) ?_
  refine g_iald F 2 0 rfl rfl (by unfold vp_in; decide) dX13_timeOf_37 ?_
  refine g_fold 0 (by rfl) ?_
  refine g_iadd F dX13_timeOf_38 ?_
  refine g_fold sv (by rw [Int32.add_zero]) ?_
  refine g_iadd F dX13_timeOf_39 ?_
  refine g_fold (19 * sv) ((i32_acc 18 sv)) ?_
  refine g_istore_n F [(2, .int (19 * sv)), (3, .int 18), (0, .ref m0), (1, .int sv)] dX13_timeOf_40 rfl (by decide) rfl ?_
  refine g_iinc F (j := 1) 19 [(3, .int 19), (2, .int (19 * sv)), (0, .ref m0), (1, .int sv)] dX13_timeOf_41 rfl (by decide) (by decide) rfl ?_
  refine g_goto F 4 dX13_timeOf_44 (by decide) ?_
  refine g_iload_n F 0 dX13_timeOf_4 rfl rfl ?_
  refine g_aload_n F 2 dX13_timeOf_5 rfl rfl ?_
  refine g_get (C := RX13) (T := TX13) (N := 73) (v := .ref m_rule) F i_X13 0 rfl rfl 10 (by decide) w_0 rfl rfl dX13_timeOf_6 ?_
  refine g_iconst F 0 dX13_timeOf_9 (by decide) ?_
  refine g_iald F 1 0 rfl rfl (by unfold vp_in; decide) dX13_timeOf_10 ?_
  refine g_fold 8 (by rfl) ?_
  refine g_aload_n F 2 dX13_timeOf_11 rfl rfl ?_
  refine g_get (C := RX13) (T := TX13) (N := 73) (v := .ref m_rule) F i_X13 0 rfl rfl 10 (by decide) w_0 rfl rfl dX13_timeOf_12 ?_
  refine g_bipush F 9 dX13_timeOf_15 (by decide) ?_
  refine g_iald F 1 0 rfl rfl (by unfold vp_in; decide) dX13_timeOf_17 ?_
  refine g_fold 4 (by rfl) ?_
  refine g_imul F dX13_timeOf_18 ?_
  refine g_fold 32 (by decide) ?_
  refine g_icmp_ge F 47 dX13_timeOf_19 (by decide) (fun h9 => absurd h9 (by decide)) (fun c_19 => ?_)
  refine g_iload_n F 1 dX13_timeOf_22 rfl rfl ?_
  refine g_iload_n F 3 dX13_timeOf_23 rfl rfl ?_
  refine g_aload_n F 2 dX13_timeOf_24 rfl rfl ?_
  refine g_get (C := RX13) (T := TX13) (N := 73) (v := .ref m_sway) F i_X13 0 rfl rfl 14 (by decide) w_1 rfl rfl dX13_timeOf_25 ?_
  refine g_iload_n F 0 dX13_timeOf_28 rfl rfl ?_
  refine g_aload_n F 2 dX13_timeOf_29 rfl rfl ?_
  refine g_get (C := RX13) (T := TX13) (N := 73) (v := .ref m_rule) F i_X13 0 rfl rfl 10 (by decide) w_0 rfl rfl dX13_timeOf_30 ?_
  refine g_bipush F 11 dX13_timeOf_33 (by decide) ?_
  refine g_iald F 1 0 rfl rfl (by unfold vp_in; decide) dX13_timeOf_35 ?_
  refine g_fold 1 (by rfl) ?_
  refine g_irem F dX13_timeOf_36 (by decide) ?_
  refine g_fold 0 (by decide) ?_
  refine g_iald F 2 0 rfl rfl (by unfold vp_in; decide) dX13_timeOf_37 ?_
  refine g_fold 0 (by rfl) ?_
  refine g_iadd F dX13_timeOf_38 ?_
  refine g_fold sv (by rw [Int32.add_zero]) ?_
  refine g_iadd F dX13_timeOf_39 ?_
  refine g_fold (20 * sv) ((i32_acc 19 sv)) ?_
  refine g_istore_n F [(2, .int (20 * sv)), (3, .int 19), (0, .ref m0), (1, .int sv)] dX13_timeOf_40 rfl (by decide) rfl ?_
  refine g_iinc F (j := 1) 20 [(3, .int 20), (2, .int (20 * sv)), (0, .ref m0), (1, .int sv)] dX13_timeOf_41 rfl (by decide) (by decide) rfl ?_
  refine g_goto F 4 dX13_timeOf_44 (by decide) ?_
  refine g_iload_n F 0 dX13_timeOf_4 rfl rfl ?_
  refine g_aload_n F 2 dX13_timeOf_5 rfl rfl ?_
  refine g_get (C := RX13) (T := TX13) (N := 73) (v := .ref m_rule) F i_X13 0 rfl rfl 10 (by decide) w_0 rfl rfl dX13_timeOf_6 ?_
  refine g_iconst F 0 dX13_timeOf_9 (by decide) ?_
  refine g_iald F 1 0 rfl rfl (by unfold vp_in; decide) dX13_timeOf_10 ?_
  refine g_fold 8 (by rfl) ?_
  refine g_aload_n F 2 dX13_timeOf_11 rfl rfl ?_
  refine g_get (C := RX13) (T := TX13) (N := 73) (v := .ref m_rule) F i_X13 0 rfl rfl 10 (by decide) w_0 rfl rfl dX13_timeOf_12 ?_
  refine g_bipush F 9 dX13_timeOf_15 (by decide) ?_
  refine g_iald F 1 0 rfl rfl (by unfold vp_in; decide) dX13_timeOf_17 ?_
  refine g_fold 4 (by rfl) ?_
  refine g_imul F dX13_timeOf_18 ?_
  refine g_fold 32 (by decide) ?_
  refine g_icmp_ge F 47 dX13_timeOf_19 (by decide) (fun h9 => absurd h9 (by decide)) (fun c_19 => ?_)
  refine g_iload_n F 1 dX13_timeOf_22 rfl rfl ?_
  refine g_iload_n F 3 dX13_timeOf_23 rfl rfl ?_
  refine g_aload_n F 2 dX13_timeOf_24 rfl rfl ?_
  refine g_get (C := RX13) (T := TX13) (N := 73) (v := .ref m_sway) F i_X13 0 rfl rfl 14 (by decide) w_1 rfl rfl dX13_timeOf_25 ?_
  refine g_iload_n F 0 dX13_timeOf_28 rfl rfl ?_
  refine g_aload_n F 2 dX13_timeOf_29 rfl rfl ?_
  refine g_get (C := RX13) (T := TX13) (N := 73) (v := .ref m_rule) F i_X13 0 rfl rfl 10 (by decide) w_0 rfl rfl dX13_timeOf_30 ?_
  refine g_bipush F 11 dX13_timeOf_33 (by decide) ?_
  refine g_iald F 1 0 rfl rfl (by unfold vp_in; decide) dX13_timeOf_35 ?_
  refine g_fold 1 (by rfl) ?_
  refine g_irem F dX13_timeOf_36 (by decide) ?_
  refine g_fold 0 (by decide) ?_
  refine g_iald F 2 0 rfl rfl (by unfold vp_in; decide) dX13_timeOf_37 ?_
  refine g_fold 0 (by rfl) ?_
  refine g_iadd F dX13_timeOf_38 ?_
  refine g_fold sv (by rw [Int32.add_zero]) ?_
  refine g_iadd F dX13_timeOf_39 ?_
  refine g_fold (21 * sv) ((i32_acc 20 sv)) ?_
  refine g_istore_n F [(2, .int (21 * sv)), (3, .int 20), (0, .ref m0), (1, .int sv)] dX13_timeOf_40 rfl (by decide) rfl ?_
  refine g_iinc F (j := 1) 21 [(3, .int 21), (2, .int (21 * sv)), (0, .ref m0), (1, .int sv)] dX13_timeOf_41 rfl (by decide) (by decide) rfl ?_
  refine g_goto F 4 dX13_timeOf_44 (by decide) ?_
  refine g_iload_n F 0 dX13_timeOf_4 rfl rfl ?_
  refine g_aload_n F 2 dX13_timeOf_5 rfl rfl ?_
  refine g_get (C := RX13) (T := TX13) (N := 73) (v := .ref m_rule) F i_X13 0 rfl rfl 10 (by decide) w_0 rfl rfl dX13_timeOf_6 ?_
  refine g_iconst F 0 dX13_timeOf_9 (by decide) ?_
  refine g_iald F 1 0 rfl rfl (by unfold vp_in; decide) dX13_timeOf_10 ?_
  refine g_fold 8 (by rfl) ?_
  refine g_aload_n F 2 dX13_timeOf_11 rfl rfl ?_
  refine g_get (C := RX13) (T := TX13) (N := 73) (v := .ref m_rule) F i_X13 0 rfl rfl 10 (by decide) w_0 rfl rfl dX13_timeOf_12 ?_
  refine g_bipush F 9 dX13_timeOf_15 (by decide) ?_
  refine g_iald F 1 0 rfl rfl (by unfold vp_in; decide) dX13_timeOf_17 ?_
  refine g_fold 4 (by rfl) ?_
  refine g_imul F dX13_timeOf_18 ?_
  refine g_fold 32 (by decide) ?_
  refine g_icmp_ge F 47 dX13_timeOf_19 (by decide) (fun h9 => absurd h9 (by decide)) (fun c_19 => ?_)
  refine g_iload_n F 1 dX13_timeOf_22 rfl rfl ?_
  refine g_iload_n F 3 dX13_timeOf_23 rfl rfl ?_
  refine g_aload_n F 2 dX13_timeOf_24 rfl rfl ?_
  refine g_get (C := RX13) (T := TX13) (N := 73) (v := .ref m_sway) F i_X13 0 rfl rfl 14 (by decide) w_1 rfl rfl dX13_timeOf_25 ?_
  refine g_iload_n F 0 dX13_timeOf_28 rfl rfl ?_
  refine g_aload_n F 2 dX13_timeOf_29 rfl rfl ?_
  refine g_get (C := RX13) (T := TX13) (N := 73) (v := .ref m_rule) F i_X13 0 rfl rfl 10 (by decide) w_0 rfl rfl dX13_timeOf_30 ?_
  refine g_bipush F 11 dX13_timeOf_33 (by decide) ?_
  refine g_iald F 1 0 rfl rfl (by unfold vp_in; decide) dX13_timeOf_35 ?_
  refine g_fold 1 (by rfl) ?_
  refine g_irem F dX13_timeOf_36 (by decide) ?_
  refine g_fold 0 (by decide) ?_
  refine g_iald F 2 0 rfl rfl (by unfold vp_in; decide) dX13_timeOf_37 ?_
  refine g_fold 0 (by rfl) ?_
  refine g_iadd F dX13_timeOf_38 ?_
  refine g_fold sv (by rw [Int32.add_zero]) ?_
  refine g_iadd F dX13_timeOf_39 ?_
  refine g_fold (22 * sv) ((i32_acc 21 sv)) ?_
  refine g_istore_n F [(2, .int (22 * sv)), (3, .int 21), (0, .ref m0), (1, .int sv)] dX13_timeOf_40 rfl (by decide) rfl ?_
  refine g_iinc F (j := 1) 22 [(3, .int 22), (2, .int (22 * sv)), (0, .ref m0), (1, .int sv)] dX13_timeOf_41 rfl (by decide) (by decide) rfl ?_
  refine g_goto F 4 dX13_timeOf_44 (by decide) ?_
  refine g_iload_n F 0 dX13_timeOf_4 rfl rfl ?_
  refine g_aload_n F 2 dX13_timeOf_5 rfl rfl ?_
  refine g_get (C := RX13) (T := TX13) (N := 73) (v := .ref m_rule) F i_X13 0 rfl rfl 10 (by decide) w_0 rfl rfl dX13_timeOf_6 ?_
  refine g_iconst F 0 dX13_timeOf_9 (by decide) ?_
  refine g_iald F 1 0 rfl rfl (by unfold vp_in; decide) dX13_timeOf_10 ?_
  refine g_fold 8 (by rfl) ?_
  refine g_aload_n F 2 dX13_timeOf_11 rfl rfl ?_
  refine g_get (C := RX13) (T := TX13) (N := 73) (v := .ref m_rule) F i_X13 0 rfl rfl 10 (by decide) w_0 rfl rfl dX13_timeOf_12 ?_
  refine g_bipush F 9 dX13_timeOf_15 (by decide) ?_
  refine g_iald F 1 0 rfl rfl (by unfold vp_in; decide) dX13_timeOf_17 ?_
  refine g_fold 4 (by rfl) ?_
  refine g_imul F dX13_timeOf_18 ?_
  refine g_fold 32 (by decide) ?_
  refine g_icmp_ge F 47 dX13_timeOf_19 (by decide) (fun h9 => absurd h9 (by decide)) (fun c_19 => ?_)
  refine g_iload_n F 1 dX13_timeOf_22 rfl rfl ?_
  refine g_iload_n F 3 dX13_timeOf_23 rfl rfl ?_
  refine g_aload_n F 2 dX13_timeOf_24 rfl rfl ?_
  refine g_get (C := RX13) (T := TX13) (N := 73) (v := .ref m_sway) F i_X13 0 rfl rfl 14 (by decide) w_1 rfl rfl dX13_timeOf_25 ?_
  refine g_iload_n F 0 dX13_timeOf_28 rfl rfl ?_
  refine g_aload_n F 2 dX13_timeOf_29 rfl rfl ?_
  refine g_get (C := RX13) (T := TX13) (N := 73) (v := .ref m_rule) F i_X13 0 rfl rfl 10 (by decide) w_0 rfl rfl dX13_timeOf_30 ?_
  refine g_bipush F 11 dX13_timeOf_33 (by decide) ?_
  refine g_iald F 1 0 rfl rfl (by unfold vp_in; decide) dX13_timeOf_35 ?_
  refine g_fold 1 (by rfl) ?_
  refine g_irem F dX13_timeOf_36 (by decide) ?_
  refine g_fold 0 (by decide) ?_
  refine g_iald F 2 0 rfl rfl (by unfold vp_in; decide) dX13_timeOf_37 ?_
  refine g_fold 0 (by rfl) ?_
  refine g_iadd F dX13_timeOf_38 ?_
  refine g_fold sv (by rw [Int32.add_zero]) ?_
  refine g_iadd F dX13_timeOf_39 ?_
  refine g_fold (23 * sv) ((i32_acc 22 sv)) ?_
  refine g_istore_n F [(2, .int (23 * sv)), (3, .int 22), (0, .ref m0), (1, .int sv)] dX13_timeOf_40 rfl (by decide) rfl ?_
  refine g_iinc F (j := 1) 23 [(3, .int 23), (2, .int (23 * sv)), (0, .ref m0), (1, .int sv)] dX13_timeOf_41 rfl (by decide) (by decide) rfl ?_
  refine g_goto F 4 dX13_timeOf_44 (by decide) ?_
  refine g_iload_n F 0 dX13_timeOf_4 rfl rfl ?_
  refine g_aload_n F 2 dX13_timeOf_5 rfl rfl ?_
  refine g_get (C := RX13) (T := TX13) (N := 73) (v := .ref m_rule) F i_X13 0 rfl rfl 10 (by decide) w_0 rfl rfl dX13_timeOf_6 ?_
  refine g_iconst F 0 dX13_timeOf_9 (by decide) ?_
  refine g_iald F 1 0 rfl rfl (by unfold vp_in; decide) dX13_timeOf_10 ?_
  refine g_fold 8 (by rfl) ?_
  refine g_aload_n F 2 dX13_timeOf_11 rfl rfl ?_
  refine g_get (C := RX13) (T := TX13) (N := 73) (v := .ref m_rule) F i_X13 0 rfl rfl 10 (by decide) w_0 rfl rfl dX13_timeOf_12 ?_
  refine g_bipush F 9 dX13_timeOf_15 (by decide) ?_
  refine g_iald F 1 0 rfl rfl (by unfold vp_in; decide) dX13_timeOf_17 ?_
  refine g_fold 4 (by rfl) ?_
  refine g_imul F dX13_timeOf_18 ?_
  refine g_fold 32 (by decide) ?_
  refine g_icmp_ge F 47 dX13_timeOf_19 (by decide) (fun h9 => absurd h9 (by decide)) (fun c_19 => ?_)
  refine g_iload_n F 1 dX13_timeOf_22 rfl rfl ?_
  refine g_iload_n F 3 dX13_timeOf_23 rfl rfl ?_
  refine g_aload_n F 2 dX13_timeOf_24 rfl rfl ?_
  refine g_get (C := RX13) (T := TX13) (N := 73) (v := .ref m_sway) F i_X13 0 rfl rfl 14 (by decide) w_1 rfl rfl dX13_timeOf_25 ?_
  refine g_iload_n F 0 dX13_timeOf_28 rfl rfl ?_
  refine g_aload_n F 2 dX13_timeOf_29 rfl rfl ?_
  refine g_get (C := RX13) (T := TX13) (N := 73) (v := .ref m_rule) F i_X13 0 rfl rfl 10 (by decide) w_0 rfl rfl dX13_timeOf_30 ?_
  refine g_bipush F 11 dX13_timeOf_33 (by decide) ?_
  refine g_iald F 1 0 rfl rfl (by unfold vp_in; decide) dX13_timeOf_35 ?_
  refine g_fold 1 (by rfl) ?_
  refine g_irem F dX13_timeOf_36 (by decide) ?_
  refine g_fold 0 (by decide) ?_
  refine g_iald F 2 0 rfl rfl (by unfold vp_in; decide) dX13_timeOf_37 ?_
  refine g_fold 0 (by rfl) ?_
  refine g_iadd F dX13_timeOf_38 ?_
  refine g_fold sv (by rw [Int32.add_zero]) ?_
  refine g_iadd F dX13_timeOf_39 ?_
  refine g_fold (24 * sv) ((i32_acc 23 sv)) ?_
  refine g_istore_n F [(2, .int (24 * sv)), (3, .int 23), (0, .ref m0), (1, .int sv)] dX13_timeOf_40 rfl (by decide) rfl ?_
  refine g_iinc F (j := 1) 24 [(3, .int 24), (2, .int (24 * sv)), (0, .ref m0), (1, .int sv)] dX13_timeOf_41 rfl (by decide) (by decide) rfl ?_
  refine g_goto F 4 dX13_timeOf_44 (by decide) ?_
  refine g_iload_n F 0 dX13_timeOf_4 rfl rfl ?_
  refine g_aload_n F 2 dX13_timeOf_5 rfl rfl ?_
  refine g_get (C := RX13) (T := TX13) (N := 73) (v := .ref m_rule) F i_X13 0 rfl rfl 10 (by decide) w_0 rfl rfl dX13_timeOf_6 ?_
  refine g_iconst F 0 dX13_timeOf_9 (by decide) ?_
  refine g_iald F 1 0 rfl rfl (by unfold vp_in; decide) dX13_timeOf_10 ?_
  refine g_fold 8 (by rfl) ?_
  refine g_aload_n F 2 dX13_timeOf_11 rfl rfl ?_
  refine g_get (C := RX13) (T := TX13) (N := 73) (v := .ref m_rule) F i_X13 0 rfl rfl 10 (by decide) w_0 rfl rfl dX13_timeOf_12 ?_
  refine g_bipush F 9 dX13_timeOf_15 (by decide) ?_
  refine g_iald F 1 0 rfl rfl (by unfold vp_in; decide) dX13_timeOf_17 ?_
  refine g_fold 4 (by rfl) ?_
  refine g_imul F dX13_timeOf_18 ?_
  refine g_fold 32 (by decide) ?_
  refine g_icmp_ge F 47 dX13_timeOf_19 (by decide) (fun h9 => absurd h9 (by decide)) (fun c_19 => ?_)
  refine g_iload_n F 1 dX13_timeOf_22 rfl rfl ?_
  refine g_iload_n F 3 dX13_timeOf_23 rfl rfl ?_
  refine g_aload_n F 2 dX13_timeOf_24 rfl rfl ?_
  refine g_get (C := RX13) (T := TX13) (N := 73) (v := .ref m_sway) F i_X13 0 rfl rfl 14 (by decide) w_1 rfl rfl dX13_timeOf_25 ?_
  refine g_iload_n F 0 dX13_timeOf_28 rfl rfl ?_
  refine g_aload_n F 2 dX13_timeOf_29 rfl rfl ?_
  refine g_get (C := RX13) (T := TX13) (N := 73) (v := .ref m_rule) F i_X13 0 rfl rfl 10 (by decide) w_0 rfl rfl dX13_timeOf_30 ?_
  refine g_bipush F 11 dX13_timeOf_33 (by decide) ?_
  refine g_iald F 1 0 rfl rfl (by unfold vp_in; decide) dX13_timeOf_35 ?_
  refine g_fold 1 (by rfl) ?_
  refine g_irem F dX13_timeOf_36 (by decide) ?_
  refine g_fold 0 (by decide) ?_
  refine g_iald F 2 0 rfl rfl (by unfold vp_in; decide) dX13_timeOf_37 ?_
  refine g_fold 0 (by rfl) ?_
  refine g_iadd F dX13_timeOf_38 ?_
  refine g_fold sv (by rw [Int32.add_zero]) ?_
  refine g_iadd F dX13_timeOf_39 ?_
  refine g_fold (25 * sv) ((i32_acc 24 sv)) ?_
  refine g_istore_n F [(2, .int (25 * sv)), (3, .int 24), (0, .ref m0), (1, .int sv)] dX13_timeOf_40 rfl (by decide) rfl ?_
  refine g_iinc F (j := 1) 25 [(3, .int 25), (2, .int (25 * sv)), (0, .ref m0), (1, .int sv)] dX13_timeOf_41 rfl (by decide) (by decide) rfl ?_
  refine g_goto F 4 dX13_timeOf_44 (by decide) ?_
  refine g_iload_n F 0 dX13_timeOf_4 rfl rfl ?_
  refine g_aload_n F 2 dX13_timeOf_5 rfl rfl ?_
  refine g_get (C := RX13) (T := TX13) (N := 73) (v := .ref m_rule) F i_X13 0 rfl rfl 10 (by decide) w_0 rfl rfl dX13_timeOf_6 ?_
  refine g_iconst F 0 dX13_timeOf_9 (by decide) ?_
  refine g_iald F 1 0 rfl rfl (by unfold vp_in; decide) dX13_timeOf_10 ?_
  refine g_fold 8 (by rfl) ?_
  refine g_aload_n F 2 dX13_timeOf_11 rfl rfl ?_
  refine g_get (C := RX13) (T := TX13) (N := 73) (v := .ref m_rule) F i_X13 0 rfl rfl 10 (by decide) w_0 rfl rfl dX13_timeOf_12 ?_
  refine g_bipush F 9 dX13_timeOf_15 (by decide) ?_
  refine g_iald F 1 0 rfl rfl (by unfold vp_in; decide) dX13_timeOf_17 ?_
  refine g_fold 4 (by rfl) ?_
  refine g_imul F dX13_timeOf_18 ?_
  refine g_fold 32 (by decide) ?_
  refine g_icmp_ge F 47 dX13_timeOf_19 (by decide) (fun h9 => absurd h9 (by decide)) (fun c_19 => ?_)
  refine g_iload_n F 1 dX13_timeOf_22 rfl rfl ?_
  refine g_iload_n F 3 dX13_timeOf_23 rfl rfl ?_
  refine g_aload_n F 2 dX13_timeOf_24 rfl rfl ?_
  refine g_get (C := RX13) (T := TX13) (N := 73) (v := .ref m_sway) F i_X13 0 rfl rfl 14 (by decide) w_1 rfl rfl dX13_timeOf_25 ?_
  refine g_iload_n F 0 dX13_timeOf_28 rfl rfl ?_
  refine g_aload_n F 2 dX13_timeOf_29 rfl rfl ?_
  refine g_get (C := RX13) (T := TX13) (N := 73) (v := .ref m_rule) F i_X13 0 rfl rfl 10 (by decide) w_0 rfl rfl dX13_timeOf_30 ?_
  refine g_bipush F 11 dX13_timeOf_33 (by decide) ?_
  refine g_iald F 1 0 rfl rfl (by unfold vp_in; decide) dX13_timeOf_35 ?_
  refine g_fold 1 (by rfl) ?_
  refine g_irem F dX13_timeOf_36 (by decide) ?_
  refine g_fold 0 (by decide) ?_
  refine g_iald F 2 0 rfl rfl (by unfold vp_in; decide) dX13_timeOf_37 ?_
  refine g_fold 0 (by rfl) ?_
  refine g_iadd F dX13_timeOf_38 ?_
  refine g_fold sv (by rw [Int32.add_zero]) ?_
  refine g_iadd F dX13_timeOf_39 ?_
  refine g_fold (26 * sv) ((i32_acc 25 sv)) ?_
  refine g_istore_n F [(2, .int (26 * sv)), (3, .int 25), (0, .ref m0), (1, .int sv)] dX13_timeOf_40 rfl (by decide) rfl ?_
  refine g_iinc F (j := 1) 26 [(3, .int 26), (2, .int (26 * sv)), (0, .ref m0), (1, .int sv)] dX13_timeOf_41 rfl (by decide) (by decide) rfl ?_
  refine g_goto F 4 dX13_timeOf_44 (by decide) ?_
  refine g_iload_n F 0 dX13_timeOf_4 rfl rfl ?_
  refine g_aload_n F 2 dX13_timeOf_5 rfl rfl ?_
  refine g_get (C := RX13) (T := TX13) (N := 73) (v := .ref m_rule) F i_X13 0 rfl rfl 10 (by decide) w_0 rfl rfl dX13_timeOf_6 ?_
  refine g_iconst F 0 dX13_timeOf_9 (by decide) ?_
  refine g_iald F 1 0 rfl rfl (by unfold vp_in; decide) dX13_timeOf_10 ?_
  refine g_fold 8 (by rfl) ?_
  refine g_aload_n F 2 dX13_timeOf_11 rfl rfl ?_
  refine g_get (C := RX13) (T := TX13) (N := 73) (v := .ref m_rule) F i_X13 0 rfl rfl 10 (by decide) w_0 rfl rfl dX13_timeOf_12 ?_
  refine g_bipush F 9 dX13_timeOf_15 (by decide) ?_
  refine g_iald F 1 0 rfl rfl (by unfold vp_in; decide) dX13_timeOf_17 ?_
  refine g_fold 4 (by rfl) ?_
  refine g_imul F dX13_timeOf_18 ?_
  refine g_fold 32 (by decide) ?_
  refine g_icmp_ge F 47 dX13_timeOf_19 (by decide) (fun h9 => absurd h9 (by decide)) (fun c_19 => ?_)
  refine g_iload_n F 1 dX13_timeOf_22 rfl rfl ?_
  refine g_iload_n F 3 dX13_timeOf_23 rfl rfl ?_
  refine g_aload_n F 2 dX13_timeOf_24 rfl rfl ?_
  refine g_get (C := RX13) (T := TX13) (N := 73) (v := .ref m_sway) F i_X13 0 rfl rfl 14 (by decide) w_1 rfl rfl dX13_timeOf_25 ?_
  refine g_iload_n F 0 dX13_timeOf_28 rfl rfl ?_
  refine g_aload_n F 2 dX13_timeOf_29 rfl rfl ?_
  refine g_get (C := RX13) (T := TX13) (N := 73) (v := .ref m_rule) F i_X13 0 rfl rfl 10 (by decide) w_0 rfl rfl dX13_timeOf_30 ?_
  refine g_bipush F 11 dX13_timeOf_33 (by decide) ?_
  refine g_iald F 1 0 rfl rfl (by unfold vp_in; decide) dX13_timeOf_35 ?_
  refine g_fold 1 (by rfl) ?_
  refine g_irem F dX13_timeOf_36 (by decide) ?_
  refine g_fold 0 (by decide) ?_
  refine g_iald F 2 0 rfl rfl (by unfold vp_in; decide) dX13_timeOf_37 ?_
  refine g_fold 0 (by rfl) ?_
  refine g_iadd F dX13_timeOf_38 ?_
  refine g_fold sv (by rw [Int32.add_zero]) ?_
  refine g_iadd F dX13_timeOf_39 ?_
  refine g_fold (27 * sv) ((i32_acc 26 sv)) ?_
  refine g_istore_n F [(2, .int (27 * sv)), (3, .int 26), (0, .ref m0), (1, .int sv)] dX13_timeOf_40 rfl (by decide) rfl ?_
  refine g_iinc F (j := 1) 27 [(3, .int 27), (2, .int (27 * sv)), (0, .ref m0), (1, .int sv)] dX13_timeOf_41 rfl (by decide) (by decide) rfl ?_
  refine g_goto F 4 dX13_timeOf_44 (by decide) ?_
  refine g_iload_n F 0 dX13_timeOf_4 rfl rfl ?_
  refine g_aload_n F 2 dX13_timeOf_5 rfl rfl ?_
  refine g_get (C := RX13) (T := TX13) (N := 73) (v := .ref m_rule) F i_X13 0 rfl rfl 10 (by decide) w_0 rfl rfl dX13_timeOf_6 ?_
  refine g_iconst F 0 dX13_timeOf_9 (by decide) ?_
  refine g_iald F 1 0 rfl rfl (by unfold vp_in; decide) dX13_timeOf_10 ?_
  refine g_fold 8 (by rfl) ?_
  refine g_aload_n F 2 dX13_timeOf_11 rfl rfl ?_
  refine g_get (C := RX13) (T := TX13) (N := 73) (v := .ref m_rule) F i_X13 0 rfl rfl 10 (by decide) w_0 rfl rfl dX13_timeOf_12 ?_
  refine g_bipush F 9 dX13_timeOf_15 (by decide) ?_
  refine g_iald F 1 0 rfl rfl (by unfold vp_in; decide) dX13_timeOf_17 ?_
  refine g_fold 4 (by rfl) ?_
  refine g_imul F dX13_timeOf_18 ?_
  refine g_fold 32 (by decide) ?_
  refine g_icmp_ge F 47 dX13_timeOf_19 (by decide) (fun h9 => absurd h9 (by decide)) (fun c_19 => ?_)
  refine g_iload_n F 1 dX13_timeOf_22 rfl rfl ?_
  refine g_iload_n F 3 dX13_timeOf_23 rfl rfl ?_
  refine g_aload_n F 2 dX13_timeOf_24 rfl rfl ?_
  refine g_get (C := RX13) (T := TX13) (N := 73) (v := .ref m_sway) F i_X13 0 rfl rfl 14 (by decide) w_1 rfl rfl dX13_timeOf_25 ?_
  refine g_iload_n F 0 dX13_timeOf_28 rfl rfl ?_
  refine g_aload_n F 2 dX13_timeOf_29 rfl rfl ?_
  refine g_get (C := RX13) (T := TX13) (N := 73) (v := .ref m_rule) F i_X13 0 rfl rfl 10 (by decide) w_0 rfl rfl dX13_timeOf_30 ?_
  refine g_bipush F 11 dX13_timeOf_33 (by decide) ?_
  refine g_iald F 1 0 rfl rfl (by unfold vp_in; decide) dX13_timeOf_35 ?_
  refine g_fold 1 (by rfl) ?_
  refine g_irem F dX13_timeOf_36 (by decide) ?_
  refine g_fold 0 (by decide) ?_
  refine g_iald F 2 0 rfl rfl (by unfold vp_in; decide) dX13_timeOf_37 ?_
  refine g_fold 0 (by rfl) ?_
  refine g_iadd F dX13_timeOf_38 ?_
  refine g_fold sv (by rw [Int32.add_zero]) ?_
  refine g_iadd F dX13_timeOf_39 ?_
  refine g_fold (28 * sv) ((i32_acc 27 sv)) ?_
  refine g_istore_n F [(2, .int (28 * sv)), (3, .int 27), (0, .ref m0), (1, .int sv)] dX13_timeOf_40 rfl (by decide) rfl ?_
  refine g_iinc F (j := 1) 28 [(3, .int 28), (2, .int (28 * sv)), (0, .ref m0), (1, .int sv)] dX13_timeOf_41 rfl (by decide) (by decide) rfl ?_
  refine g_goto F 4 dX13_timeOf_44 (by decide) ?_
  refine g_iload_n F 0 dX13_timeOf_4 rfl rfl ?_
  refine g_aload_n F 2 dX13_timeOf_5 rfl rfl ?_
  refine g_get (C := RX13) (T := TX13) (N := 73) (v := .ref m_rule) F i_X13 0 rfl rfl 10 (by decide) w_0 rfl rfl dX13_timeOf_6 ?_
  refine g_iconst F 0 dX13_timeOf_9 (by decide) ?_
  refine g_iald F 1 0 rfl rfl (by unfold vp_in; decide) dX13_timeOf_10 ?_
  refine g_fold 8 (by rfl) ?_
  refine g_aload_n F 2 dX13_timeOf_11 rfl rfl ?_
  refine g_get (C := RX13) (T := TX13) (N := 73) (v := .ref m_rule) F i_X13 0 rfl rfl 10 (by decide) w_0 rfl rfl dX13_timeOf_12 ?_
  refine g_bipush F 9 dX13_timeOf_15 (by decide) ?_
  refine g_iald F 1 0 rfl rfl (by unfold vp_in; decide) dX13_timeOf_17 ?_
  refine g_fold 4 (by rfl) ?_
  refine g_imul F dX13_timeOf_18 ?_
  refine g_fold 32 (by decide) ?_
  refine g_icmp_ge F 47 dX13_timeOf_19 (by decide) (fun h9 => absurd h9 (by decide)) (fun c_19 => ?_)
  refine g_iload_n F 1 dX13_timeOf_22 rfl rfl ?_
  refine g_iload_n F 3 dX13_timeOf_23 rfl rfl ?_
  refine g_aload_n F 2 dX13_timeOf_24 rfl rfl ?_
  refine g_get (C := RX13) (T := TX13) (N := 73) (v := .ref m_sway) F i_X13 0 rfl rfl 14 (by decide) w_1 rfl rfl dX13_timeOf_25 ?_
  refine g_iload_n F 0 dX13_timeOf_28 rfl rfl ?_
  refine g_aload_n F 2 dX13_timeOf_29 rfl rfl ?_
  refine g_get (C := RX13) (T := TX13) (N := 73) (v := .ref m_rule) F i_X13 0 rfl rfl 10 (by decide) w_0 rfl rfl dX13_timeOf_30 ?_
  refine g_bipush F 11 dX13_timeOf_33 (by decide) ?_
  refine g_iald F 1 0 rfl rfl (by unfold vp_in; decide) dX13_timeOf_35 ?_
  refine g_fold 1 (by rfl) ?_
  refine g_irem F dX13_timeOf_36 (by decide) ?_
  refine g_fold 0 (by decide) ?_
  refine g_iald F 2 0 rfl rfl (by unfold vp_in; decide) dX13_timeOf_37 ?_
  refine g_fold 0 (by rfl) ?_
  refine g_iadd F dX13_timeOf_38 ?_
  refine g_fold sv (by rw [Int32.add_zero]) ?_
  refine g_iadd F dX13_timeOf_39 ?_
  refine g_fold (29 * sv) ((i32_acc 28 sv)) ?_
  refine g_istore_n F [(2, .int (29 * sv)), (3, .int 28), (0, .ref m0), (1, .int sv)] dX13_timeOf_40 rfl (by decide) rfl ?_
  refine g_iinc F (j := 1) 29 [(3, .int 29), (2, .int (29 * sv)), (0, .ref m0), (1, .int sv)] dX13_timeOf_41 rfl (by decide) (by decide) rfl ?_
  refine g_goto F 4 dX13_timeOf_44 (by decide) ?_
  refine g_iload_n F 0 dX13_timeOf_4 rfl rfl ?_
  refine g_aload_n F 2 dX13_timeOf_5 rfl rfl ?_
  refine g_get (C := RX13) (T := TX13) (N := 73) (v := .ref m_rule) F i_X13 0 rfl rfl 10 (by decide) w_0 rfl rfl dX13_timeOf_6 ?_
  refine g_iconst F 0 dX13_timeOf_9 (by decide) ?_
  refine g_iald F 1 0 rfl rfl (by unfold vp_in; decide) dX13_timeOf_10 ?_
  refine g_fold 8 (by rfl) ?_
  refine g_aload_n F 2 dX13_timeOf_11 rfl rfl ?_
  refine g_get (C := RX13) (T := TX13) (N := 73) (v := .ref m_rule) F i_X13 0 rfl rfl 10 (by decide) w_0 rfl rfl dX13_timeOf_12 ?_
  refine g_bipush F 9 dX13_timeOf_15 (by decide) ?_
  refine g_iald F 1 0 rfl rfl (by unfold vp_in; decide) dX13_timeOf_17 ?_
  refine g_fold 4 (by rfl) ?_
  refine g_imul F dX13_timeOf_18 ?_
  refine g_fold 32 (by decide) ?_
  refine g_icmp_ge F 47 dX13_timeOf_19 (by decide) (fun h9 => absurd h9 (by decide)) (fun c_19 => ?_)
  refine g_iload_n F 1 dX13_timeOf_22 rfl rfl ?_
  refine g_iload_n F 3 dX13_timeOf_23 rfl rfl ?_
  refine g_aload_n F 2 dX13_timeOf_24 rfl rfl ?_
  refine g_get (C := RX13) (T := TX13) (N := 73) (v := .ref m_sway) F i_X13 0 rfl rfl 14 (by decide) w_1 rfl rfl dX13_timeOf_25 ?_
  refine g_iload_n F 0 dX13_timeOf_28 rfl rfl ?_
  refine g_aload_n F 2 dX13_timeOf_29 rfl rfl ?_
  refine g_get (C := RX13) (T := TX13) (N := 73) (v := .ref m_rule) F i_X13 0 rfl rfl 10 (by decide) w_0 rfl rfl dX13_timeOf_30 ?_
  refine g_bipush F 11 dX13_timeOf_33 (by decide) ?_
  refine g_iald F 1 0 rfl rfl (by unfold vp_in; decide) dX13_timeOf_35 ?_
  refine g_fold 1 (by rfl) ?_
  refine g_irem F dX13_timeOf_36 (by decide) ?_
  refine g_fold 0 (by decide) ?_
  refine g_iald F 2 0 rfl rfl (by unfold vp_in; decide) dX13_timeOf_37 ?_
  refine g_fold 0 (by rfl) ?_
  refine g_iadd F dX13_timeOf_38 ?_
  refine g_fold sv (by rw [Int32.add_zero]) ?_
  refine g_iadd F dX13_timeOf_39 ?_
  refine g_fold (30 * sv) ((i32_acc 29 sv)) ?_
  refine g_istore_n F [(2, .int (30 * sv)), (3, .int 29), (0, .ref m0), (1, .int sv)] dX13_timeOf_40 rfl (by decide) rfl ?_
  refine g_iinc F (j := 1) 30 [(3, .int 30), (2, .int (30 * sv)), (0, .ref m0), (1, .int sv)] dX13_timeOf_41 rfl (by decide) (by decide) rfl ?_
  refine g_goto F 4 dX13_timeOf_44 (by decide) ?_
  refine g_iload_n F 0 dX13_timeOf_4 rfl rfl ?_
  refine g_aload_n F 2 dX13_timeOf_5 rfl rfl ?_
  refine g_get (C := RX13) (T := TX13) (N := 73) (v := .ref m_rule) F i_X13 0 rfl rfl 10 (by decide) w_0 rfl rfl dX13_timeOf_6 ?_
  refine g_iconst F 0 dX13_timeOf_9 (by decide) ?_
  refine g_iald F 1 0 rfl rfl (by unfold vp_in; decide) dX13_timeOf_10 ?_
  refine g_fold 8 (by rfl) ?_
  refine g_aload_n F 2 dX13_timeOf_11 rfl rfl ?_
  refine g_get (C := RX13) (T := TX13) (N := 73) (v := .ref m_rule) F i_X13 0 rfl rfl 10 (by decide) w_0 rfl rfl dX13_timeOf_12 ?_
  refine g_bipush F 9 dX13_timeOf_15 (by decide) ?_
  refine g_iald F 1 0 rfl rfl (by unfold vp_in; decide) dX13_timeOf_17 ?_
  refine g_fold 4 (by rfl) ?_
  refine g_imul F dX13_timeOf_18 ?_
  refine g_fold 32 (by decide) ?_
  refine g_icmp_ge F 47 dX13_timeOf_19 (by decide) (fun h9 => absurd h9 (by decide)) (fun c_19 => ?_)
  refine g_iload_n F 1 dX13_timeOf_22 rfl rfl ?_
  refine g_iload_n F 3 dX13_timeOf_23 rfl rfl ?_
  refine g_aload_n F 2 dX13_timeOf_24 rfl rfl ?_
  refine g_get (C := RX13) (T := TX13) (N := 73) (v := .ref m_sway) F i_X13 0 rfl rfl 14 (by decide) w_1 rfl rfl dX13_timeOf_25 ?_
  refine g_iload_n F 0 dX13_timeOf_28 rfl rfl ?_
  refine g_aload_n F 2 dX13_timeOf_29 rfl rfl ?_
  refine g_get (C := RX13) (T := TX13) (N := 73) (v := .ref m_rule) F i_X13 0 rfl rfl 10 (by decide) w_0 rfl rfl dX13_timeOf_30 ?_
  refine g_bipush F 11 dX13_timeOf_33 (by decide) ?_
  refine g_iald F 1 0 rfl rfl (by unfold vp_in; decide) dX13_timeOf_35 ?_
  refine g_fold 1 (by rfl) ?_
  refine g_irem F dX13_timeOf_36 (by decide) ?_
  refine g_fold 0 (by decide) ?_
  refine g_iald F 2 0 rfl rfl (by unfold vp_in; decide) dX13_timeOf_37 ?_
  refine g_fold 0 (by rfl) ?_
  refine g_iadd F dX13_timeOf_38 ?_
  refine g_fold sv (by rw [Int32.add_zero]) ?_
  refine g_iadd F dX13_timeOf_39 ?_
  refine g_fold (31 * sv) ((i32_acc 30 sv)) ?_
  refine g_istore_n F [(2, .int (31 * sv)), (3, .int 30), (0, .ref m0), (1, .int sv)] dX13_timeOf_40 rfl (by decide) rfl ?_
  refine g_iinc F (j := 1) 31 [(3, .int 31), (2, .int (31 * sv)), (0, .ref m0), (1, .int sv)] dX13_timeOf_41 rfl (by decide) (by decide) rfl ?_
  refine g_goto F 4 dX13_timeOf_44 (by decide) ?_
  refine g_iload_n F 0 dX13_timeOf_4 rfl rfl ?_
  refine g_aload_n F 2 dX13_timeOf_5 rfl rfl ?_
  refine g_get (C := RX13) (T := TX13) (N := 73) (v := .ref m_rule) F i_X13 0 rfl rfl 10 (by decide) w_0 rfl rfl dX13_timeOf_6 ?_
  refine g_iconst F 0 dX13_timeOf_9 (by decide) ?_
  refine g_iald F 1 0 rfl rfl (by unfold vp_in; decide) dX13_timeOf_10 ?_
  refine g_fold 8 (by rfl) ?_
  refine g_aload_n F 2 dX13_timeOf_11 rfl rfl ?_
  refine g_get (C := RX13) (T := TX13) (N := 73) (v := .ref m_rule) F i_X13 0 rfl rfl 10 (by decide) w_0 rfl rfl dX13_timeOf_12 ?_
  refine g_bipush F 9 dX13_timeOf_15 (by decide) ?_
  refine g_iald F 1 0 rfl rfl (by unfold vp_in; decide) dX13_timeOf_17 ?_
  refine g_fold 4 (by rfl) ?_
  refine g_imul F dX13_timeOf_18 ?_
  refine g_fold 32 (by decide) ?_
  refine g_icmp_ge F 47 dX13_timeOf_19 (by decide) (fun h9 => absurd h9 (by decide)) (fun c_19 => ?_)
  refine g_iload_n F 1 dX13_timeOf_22 rfl rfl ?_
  refine g_iload_n F 3 dX13_timeOf_23 rfl rfl ?_
  refine g_aload_n F 2 dX13_timeOf_24 rfl rfl ?_
  refine g_get (C := RX13) (T := TX13) (N := 73) (v := .ref m_sway) F i_X13 0 rfl rfl 14 (by decide) w_1 rfl rfl dX13_timeOf_25 ?_
  refine g_iload_n F 0 dX13_timeOf_28 rfl rfl ?_
  refine g_aload_n F 2 dX13_timeOf_29 rfl rfl ?_
  refine g_get (C := RX13) (T := TX13) (N := 73) (v := .ref m_rule) F i_X13 0 rfl rfl 10 (by decide) w_0 rfl rfl dX13_timeOf_30 ?_
  refine g_bipush F 11 dX13_timeOf_33 (by decide) ?_
  refine g_iald F 1 0 rfl rfl (by unfold vp_in; decide) dX13_timeOf_35 ?_
  refine g_fold 1 (by rfl) ?_
  refine g_irem F dX13_timeOf_36 (by decide) ?_
  refine g_fold 0 (by decide) ?_
  refine g_iald F 2 0 rfl rfl (by unfold vp_in; decide) dX13_timeOf_37 ?_
  refine g_fold 0 (by rfl) ?_
  refine g_iadd F dX13_timeOf_38 ?_
  refine g_fold sv (by rw [Int32.add_zero]) ?_
  refine g_iadd F dX13_timeOf_39 ?_
  refine g_fold (32 * sv) ((i32_acc 31 sv)) ?_
  refine g_istore_n F [(2, .int (32 * sv)), (3, .int 31), (0, .ref m0), (1, .int sv)] dX13_timeOf_40 rfl (by decide) rfl ?_
  refine g_iinc F (j := 1) 32 [(3, .int 32), (2, .int (32 * sv)), (0, .ref m0), (1, .int sv)] dX13_timeOf_41 rfl (by decide) (by decide) rfl ?_
  refine g_goto F 4 dX13_timeOf_44 (by decide) ?_
  refine g_iload_n F 0 dX13_timeOf_4 rfl rfl ?_
  refine g_aload_n F 2 dX13_timeOf_5 rfl rfl ?_
  refine g_get (C := RX13) (T := TX13) (N := 73) (v := .ref m_rule) F i_X13 0 rfl rfl 10 (by decide) w_0 rfl rfl dX13_timeOf_6 ?_
  refine g_iconst F 0 dX13_timeOf_9 (by decide) ?_
  refine g_iald F 1 0 rfl rfl (by unfold vp_in; decide) dX13_timeOf_10 ?_
  refine g_fold 8 (by rfl) ?_
  refine g_aload_n F 2 dX13_timeOf_11 rfl rfl ?_
  refine g_get (C := RX13) (T := TX13) (N := 73) (v := .ref m_rule) F i_X13 0 rfl rfl 10 (by decide) w_0 rfl rfl dX13_timeOf_12 ?_
  refine g_bipush F 9 dX13_timeOf_15 (by decide) ?_
  refine g_iald F 1 0 rfl rfl (by unfold vp_in; decide) dX13_timeOf_17 ?_
  refine g_fold 4 (by rfl) ?_
  refine g_imul F dX13_timeOf_18 ?_
  refine g_fold 32 (by decide) ?_
  refine g_icmp_ge F 47 dX13_timeOf_19 (by decide) (fun c_19 => ?_) (fun h9 => absurd (by decide) h9) 
  refine g_iload_n F 1 dX13_timeOf_47 rfl rfl ?_
  exact g_iret F hA hQ hr () (rfl) [0, 1, 2] [0] rfl (by decide) rfl rfl dX13_timeOf_48
