def xSg (G : gS) : Nat → sSt := fun i => if i = 0 then xS 14 29 31 G else if i = 1 then xS 15 32 34 G else if i = 2 then xS 16 35 37 G else sZ
/-- which words were told -/
def xTd (w : Int32) : Nat → Int := fun i => if i < 13 ∧ w.toBitVec.getLsbD i = true then 1 else 0
def xH (ts : List hTk) (G : gS) : hRes := hO ts (G 4 4).toInt (G 4 5).toInt (G 4 6).toInt (G 4 2).toInt (xTd (G 4 3)) (G 19) (xSg G)
theorem xH_of {ts : List hTk} {G : gS} {c cnt lat cl : Int} {td : Nat → Int} {nu : Nat → Int32} {sg : Nat → sSt} (e4 : (G 4 4).toInt = c) (e5 : (G 4 5).toInt = cnt) (e6 : (G 4 6).toInt = lat) (e2 : (G 4 2).toInt = cl) (e3 : xTd (G 4 3) = td) (en : G 19 = nu) (es : xSg G = sg) : xH ts G = hO ts c cnt lat cl td nu sg := by
  unfold xH
  rw [e4, e5, e6, e2, e3, en, es]
theorem xS_eq {j rc rw : Nat} {G G' : gS} {L : List Nat} (hU : gu_un xcd L G G') (hL : (L.contains (xcd j 8) || L.contains (xcd rw 0) || L.contains (xcd j 4) || L.contains (xcd j 6) || L.contains (xcd j 7) || L.contains (xcd j 5) || L.contains (xcd rc 0) || L.contains (xcd j 1)) = false) (hr : ∀ k, xcd rw k = xcd rw 0) (hc : ∀ k, xcd rc k = xcd rc 0) : xS j rc rw G' = xS j rc rw G := by
  have hm : ∀ n : Nat, L.contains n = false → n ∉ L := by
    intro n h1 h2
    rw [List.contains_iff_mem.mpr h2] at h1
    cases h1
  simp only [Bool.or_eq_false_iff] at hL
  obtain ⟨⟨⟨⟨⟨⟨⟨h1, h2⟩, h3⟩, h4⟩, h5⟩, h6⟩, h7⟩, h8⟩ := hL
  unfold xS
  rw [hU j 8 (hm _ h1), hU j 4 (hm _ h3), hU j 6 (hm _ h4), hU j 7 (hm _ h5), hU j 5 (hm _ h6), hU j 1 (hm _ h8), show G' rw = G rw from funext fun k => hU rw k (by rw [hr k]; exact hm _ h2), show G' rc = G rc from funext fun k => hU rc k (by rw [hc k]; exact hm _ h7)]
def xC0 : List Nat := [1409, 3100, 1405, 1407, 1408, 1406, 2900, 1402]
def xC1 : List Nat := [1509, 3400, 1505, 1507, 1508, 1506, 3200, 1502]
def xC2 : List Nat := [1609, 3700, 1605, 1607, 1608, 1606, 3500, 1602]
def xNo (L C : List Nat) : Bool := C.any (fun n => L.contains n)
theorem xS_e0 {G G' : gS} {L : List Nat} (hU : gu_un xcd L G G') (hL : xNo L xC0 = false) : xS 14 29 31 G' = xS 14 29 31 G := xS_eq hU (by simpa [xNo, xC0, xcd, Bool.or_assoc] using hL) (fun _ => rfl) (fun _ => rfl)
theorem xS_e1 {G G' : gS} {L : List Nat} (hU : gu_un xcd L G G') (hL : xNo L xC1 = false) : xS 15 32 34 G' = xS 15 32 34 G := xS_eq hU (by simpa [xNo, xC1, xcd, Bool.or_assoc] using hL) (fun _ => rfl) (fun _ => rfl)
theorem xS_e2 {G G' : gS} {L : List Nat} (hU : gu_un xcd L G G') (hL : xNo L xC2 = false) : xS 16 35 37 G' = xS 16 35 37 G := xS_eq hU (by simpa [xNo, xC2, xcd, Bool.or_assoc] using hL) (fun _ => rfl) (fun _ => rfl)
theorem xSg_un {G G' : gS} {L : List Nat} (hU : gu_un xcd L G G') (h0 : xNo L xC0 = false) (h1 : xNo L xC1 = false) (h2 : xNo L xC2 = false) : xSg G' = xSg G := by
  unfold xSg
  rw [xS_e0 hU h0, xS_e1 hU h1, xS_e2 hU h2]
theorem xSg_0 {G G' : gS} {L : List Nat} {s : sSt} (hU : gu_un xcd L G G') (h1 : xNo L xC1 = false) (h2 : xNo L xC2 = false) (hs : xS 14 29 31 G' = s) : xSg G' = updS (xSg G) 0 s := funext fun i => by
  unfold xSg updS
  rw [hs, xS_e1 hU h1, xS_e2 hU h2]
  by_cases e : i = 0
  · simp only [if_pos e]
  · simp only [if_neg e]
theorem xSg_1 {G G' : gS} {L : List Nat} {s : sSt} (hU : gu_un xcd L G G') (h0 : xNo L xC0 = false) (h2 : xNo L xC2 = false) (hs : xS 15 32 34 G' = s) : xSg G' = updS (xSg G) 1 s := funext fun i => by
  unfold xSg updS
  rw [hs, xS_e0 hU h0, xS_e2 hU h2]
  by_cases e : i = 1
  · simp only [if_neg (show ¬ i = 0 by omega), if_pos e]
  · simp only [if_neg e]
theorem xSg_2 {G G' : gS} {L : List Nat} {s : sSt} (hU : gu_un xcd L G G') (h0 : xNo L xC0 = false) (h1 : xNo L xC1 = false) (hs : xS 16 35 37 G' = s) : xSg G' = updS (xSg G) 2 s := funext fun i => by
  unfold xSg updS
  rw [hs, xS_e0 hU h0, xS_e1 hU h1]
  by_cases e : i = 2
  · simp only [if_neg (show ¬ i = 0 by omega), if_neg (show ¬ i = 1 by omega), if_pos e]
  · simp only [if_neg e]
theorem updS_self {g : Nat → sSt} {i : Nat} : updS g i (g i) = g := funext fun k => by
  unfold updS
  by_cases e : k = i
  · rw [if_pos e, e]
  · rw [if_neg e]
theorem xH_sum {ts : List hTk} {i : Nat} {G : gS} (hc : (G 4 4).toInt = 10 + (i : Int)) : xH ts G = hF ts i (G 4 5).toInt (G 4 6).toInt (G 4 2).toInt (xTd (G 4 3)) (G 19) (xSg G) (xSg G i) := by
  unfold xH hF
  rw [hc, updS_self]
theorem xH_tok {i : Nat} {G G' : gS} {s s' : sSt} {k v r : Int} (hc : (G 4 4).toInt = 10 + (i : Int)) (hs : xSg G i = s) (hn : ¬ (k = 3 ∧ v = 59 ∧ s.1 = 0 ∧ s.2.2.2.1 = 0)) (h : sR (sTt i k v s) r s') (hG : xSg G' = updS (xSg G) i s') (e4 : G' 4 4 = G 4 4) (e5 : G' 4 5 = G 4 5) (e6 : G' 4 6 = G 4 6) (e2 : G' 4 2 = G 4 2) (e3 : G' 4 3 = G 4 3) (en : G' 19 = G 19) : ∀ (ts : List hTk) (pl ci : Int), xH ((k, pl, v, ci) :: ts) G = if r = 0 then xH ts G' else hBad r pl := fun ts pl ci => by
  rw [xH_sum hc, hs, hF_step, if_neg hn]
  by_cases e : r = 0
  · rw [if_pos (show (sTt i k v s).1 = 0 by rw [h.1]; exact e), if_pos e, h.2 e]
    unfold xH hF
    rw [hG, e4, e5, e6, e2, e3, en, hc]
  · rw [if_neg (show ¬ (sTt i k v s).1 = 0 by rw [h.1]; exact e), if_neg e, h.1]
theorem xH_fin {i : Nat} {G G' : gS} {s : sSt} {k v r : Int} (hr : r = 0) (hc : (G 4 4).toInt = 10 + (i : Int)) (hs : xSg G i = s) (hk : k = 3) (hv : v = 59) (h1 : s.1 = 0) (h2 : s.2.2.2.1 = 0) (hG : xSg G' = updS (xSg G) i (sFin s)) (e4 : (G' 4 4).toInt = -1) (e5 : G' 4 5 = G 4 5) (e6 : G' 4 6 = G 4 6) (e2 : (G' 4 2).toInt = (G 4 2).toInt + 1) (e3 : G' 4 3 = G 4 3) (en : G' 19 = G 19) : ∀ (ts : List hTk) (pl ci : Int), xH ((k, pl, v, ci) :: ts) G = if r = 0 then xH ts G' else hBad r pl := fun ts pl ci => by
  rw [xH_sum hc, hs, hF_fin hk hv h1 h2, if_pos hr]
  unfold xH
  rw [hG, e4, e5, e6, e2, e3, en]
theorem xTd_0 : xTd 0 = fun _ => 0 := funext fun i => by
  unfold xTd
  rw [if_neg (fun h => by have h1 := h.2; simp at h1)]
theorem xTd_j {f : Int32} {i : Int} (hf : f.toInt = i) (h0 : 0 ≤ i) (h1 : i ≤ 12) : f = Int32.ofNat i.toNat := by
  apply Int32.toInt_inj.mp
  rw [hf, Int32.toInt_ofNat_of_lt (by omega)]
  omega
/-- one bit of the words told -/
theorem xTd_bit {w f : Int32} {i : Int} (hf : f.toInt = i) (h0 : 0 ≤ i) (h1 : i ≤ 12) : xTd w i.toNat = ((w >>> (f &&& 31)) &&& 1).toInt := by
  have hk := xTd_j hf h0 h1
  obtain ⟨j, hj⟩ : ∃ j : Nat, i.toNat = j := ⟨_, rfl⟩
  rw [hj] at hk ⊢
  have hj2 : j < 13 := by omega
  have h3 := ti_andm (x := w >>> (f &&& 31)) (y := 1) (b := 1) rfl (by decide)
  have n3 := bi_nat h3.1
  have e5 : (w >>> (f &&& 31)).toBitVec = w.toBitVec.sshiftRight j := by
    rw [hk]
    have : j = 0 ∨ j = 1 ∨ j = 2 ∨ j = 3 ∨ j = 4 ∨ j = 5 ∨ j = 6 ∨ j = 7 ∨ j = 8 ∨ j = 9 ∨ j = 10 ∨ j = 11 ∨ j = 12 := by omega
    rcases this with rfl | rfl | rfl | rfl | rfl | rfl | rfl | rfl | rfl | rfl | rfl | rfl | rfl <;> rfl
  have e2 : (w >>> (f &&& 31) &&& 1).toBitVec.toNat = (w.toBitVec.sshiftRight j).toNat % 2 := by
    show ((w >>> (f &&& 31)).toBitVec &&& (1 : Int32).toBitVec).toNat = _
    rw [e5, BitVec.toNat_and]
    show _ &&& 1 = _
    rw [Nat.and_one_is_mod]
  have e3 : (w.toBitVec.sshiftRight j).getLsbD 0 = w.toBitVec.getLsbD j := by
    rw [BitVec.getLsbD_sshiftRight]
    have : j + 0 < 32 := by omega
    simp [this]
    omega
  have e4 : (w.toBitVec.sshiftRight j).getLsbD 0 = decide ((w.toBitVec.sshiftRight j).toNat % 2 = 1) := Nat.testBit_zero _
  rw [e3] at e4
  unfold xTd
  rw [n3] at e2
  by_cases e : (w.toBitVec.sshiftRight j).toNat % 2 = 1
  · rw [if_pos ⟨hj2, by rw [e4]; exact decide_eq_true e⟩]
    omega
  · rw [if_neg (fun h => by rw [e4] at h; exact e (of_decide_eq_true h.2))]
    omega
theorem xTd_set {w f : Int32} {i : Int} (hf : f.toInt = i) (h0 : 0 ≤ i) (h1 : i ≤ 12) : xTd (w ||| ((1 : Int32) <<< (f &&& 31))) = updI (xTd w) i.toNat 1 := by
  have hk := xTd_j hf h0 h1
  obtain ⟨j, hj⟩ : ∃ j : Nat, i.toNat = j := ⟨_, rfl⟩
  rw [hj] at hk ⊢
  have hj2 : j < 13 := by omega
  have e1 : ((1 : Int32) <<< (f &&& 31)).toBitVec = BitVec.twoPow 32 j := by
    rw [hk]
    have : j = 0 ∨ j = 1 ∨ j = 2 ∨ j = 3 ∨ j = 4 ∨ j = 5 ∨ j = 6 ∨ j = 7 ∨ j = 8 ∨ j = 9 ∨ j = 10 ∨ j = 11 ∨ j = 12 := by omega
    rcases this with rfl | rfl | rfl | rfl | rfl | rfl | rfl | rfl | rfl | rfl | rfl | rfl | rfl <;> rfl
  funext q
  unfold xTd updI
  rw [show (w ||| ((1 : Int32) <<< (f &&& 31))).toBitVec = w.toBitVec ||| ((1 : Int32) <<< (f &&& 31)).toBitVec from rfl, e1, BitVec.getLsbD_or, BitVec.getLsbD_twoPow]
  by_cases e : q = j
  · rw [if_pos e, if_pos ⟨by omega, by simp [e]; omega⟩]
  · rw [if_neg e]
    have e9 : (decide (j < 32) && decide (j = q)) = false := by simp; omega
    rw [e9, Bool.or_false]
theorem xH_bad {G G' : gS} {k v r f : Int} (hr : r = f) (hf : f ≠ 0) (h : ∀ (ts : List hTk) (pl ci : Int), hO ((k, pl, v, ci) :: ts) (G 4 4).toInt (G 4 5).toInt (G 4 6).toInt (G 4 2).toInt (xTd (G 4 3)) (G 19) (xSg G) = hBad f pl) : ∀ (ts : List hTk) (pl ci : Int), xH ((k, pl, v, ci) :: ts) G = if r = 0 then xH ts G' else hBad r pl := fun ts pl ci => by
  rw [if_neg (by omega), hr]
  exact h ts pl ci
theorem xH_nE {G G' : gS} {k v r c : Int} (hr : r = 0) (hc : (G 4 4).toInt = c) (h0 : 0 ≤ c) (h9 : c ≤ 9) (h : hCl c (G 4 5).toInt k v) (e4 : (G' 4 4).toInt = -1) (e5 : G' 4 5 = G 4 5) (e6 : G' 4 6 = G 4 6) (e2 : (G' 4 2).toInt = (G 4 2).toInt + 1) (e3 : G' 4 3 = G 4 3) (en : G' 19 = if c = 8 then upd (G 19) 10 (G 4 5) else if c = 9 then upd (G 19) 11 (G 4 5) else G 19) (es : xSg G' = xSg G) : ∀ (ts : List hTk) (pl ci : Int), xH ((k, pl, v, ci) :: ts) G = if r = 0 then xH ts G' else hBad r pl := fun ts pl ci => by
  rw [if_pos hr]
  unfold xH
  rw [hc, hO_nE h0 h9 h, e4, e5, e6, e2, e3, en, es, Int32.ofInt_toInt]
theorem xH_nP {G G' : gS} {k v r c : Int} (hr : r = 0) (hc : (G 4 4).toInt = c) (h0 : 0 ≤ c) (h9 : c ≤ 9) (hk : k = 2) (ho : ¬ hOut c (G 4 5).toInt (G 4 6).toInt v) (hm : (G 4 5).toInt ≠ hMo c) (e4 : G' 4 4 = G 4 4) (e5 : (G' 4 5).toInt = (G 4 5).toInt + 1) (e6 : (G' 4 6).toInt = v) (e2 : G' 4 2 = G 4 2) (e3 : G' 4 3 = G 4 3) {x : Int32} (hx : x.toInt = v) {q : Int} (hq : q = hSl c + (G 4 5).toInt) (en : G' 19 = upd (G 19) q.toNat x) (es : xSg G' = xSg G) : ∀ (ts : List hTk) (pl ci : Int), xH ((k, pl, v, ci) :: ts) G = if r = 0 then xH ts G' else hBad r pl := fun ts pl ci => by
  rw [if_pos hr]
  unfold xH
  rw [hc, hO_nP h0 h9 hk ho hm, e4, hc, e5, e6, e2, e3, en, es, hq, ← hx, Int32.ofInt_toInt]
theorem xH_w {G G' : gS} {k v r c ci : Int} (hr : r = 0) (hc : (G 4 4).toInt = -1) (hk : k ≠ 0) (hi : ci = c) (h0 : 0 ≤ c) (ht : xTd (G 4 3) c.toNat = 0) (e4 : (G' 4 4).toInt = c) (e5 : (G' 4 5).toInt = 0) (e6 : G' 4 6 = G 4 6) (e2 : G' 4 2 = G 4 2) (e3 : xTd (G' 4 3) = updI (xTd (G 4 3)) c.toNat 1) (en : G' 19 = G 19) (es : xSg G' = if 10 ≤ c then updS (xSg G) (c - 10).toNat (1, [], 0, 0, 0, []) else xSg G) : ∀ (ts : List hTk) (pl : Int), xH ((k, pl, v, ci) :: ts) G = if r = 0 then xH ts G' else hBad r pl := fun ts pl => by
  rw [if_pos hr, hi]
  unfold xH
  rw [hO_wd hc hk (by omega) ht, e4, e5, e6, e2, e3, en, es]
theorem xH_wb {G G' : gS} {k v r f ci : Int} (hr : r = f) (hf : f ≠ 0) (h : ∀ (ts : List hTk) (pl : Int), hO ((k, pl, v, ci) :: ts) (G 4 4).toInt (G 4 5).toInt (G 4 6).toInt (G 4 2).toInt (xTd (G 4 3)) (G 19) (xSg G) = hBad f pl) : ∀ (ts : List hTk) (pl : Int), xH ((k, pl, v, ci) :: ts) G = if r = 0 then xH ts G' else hBad r pl := fun ts pl => by
  rw [if_neg (by omega), hr]
  exact h ts pl
/-- a text's start -/
def xIn (X : gS) : Prop := (X 4 4).toInt = -1 ∧ (X 4 2).toInt = 0 ∧ X 4 3 = 0 ∧ (∀ q : Nat, q < 36 → X 19 q = hU q) ∧ tkr (X 29) (X 14 1).toInt.toNat = [-1] ∧ tkr (X 32) (X 15 1).toInt.toNat = [0] ∧ tkr (X 35) (X 16 1).toInt.toNat = [0]
def xCR : List Nat := [405, 406, 407, 403, 404, 1900]
theorem xH_un {G G' : gS} {L : List Nat} (hU : gu_un xcd L G G') (hR : xNo L xCR = false) (h0 : xNo L xC0 = false) (h1 : xNo L xC1 = false) (h2 : xNo L xC2 = false) (ts : List hTk) : xH ts G' = xH ts G := by
  have hm : ∀ n : Nat, L.contains n = false → n ∉ L := by
    intro n h1 h2
    rw [List.contains_iff_mem.mpr h2] at h1
    cases h1
  have hR' : (L.contains 405 || (L.contains 406 || (L.contains 407 || (L.contains 403 || (L.contains 404 || L.contains 1900))))) = false := by
    simpa [xNo, xCR] using hR
  simp only [Bool.or_eq_false_iff] at hR'
  obtain ⟨r1, r2, r3, r4, r5, r6⟩ := hR'
  unfold xH
  rw [hU 4 4 (hm _ r1), hU 4 5 (hm _ r2), hU 4 6 (hm _ r3), hU 4 2 (hm _ r4), hU 4 3 (hm _ r5), show G' 19 = G 19 from funext fun k => hU 19 k (hm _ r6), xSg_un hU h0 h1 h2]
/-- one token more -/
theorem rd_step {b : Nat → Int32} {n p k pl v q r : Int} {ts : List hTk} {G G1 G2 : gS} {R : hRes} (hL : tL b n p ts) (hR : xH ts G = R) (ht : tTok b n p k pl v q) (hp : p ≤ n) (hv : k = 1 → (q - pl = 1 ∧ v = yBi b n pl) ∨ (q - pl ≠ 1 ∧ v = 0)) (h1 : ∀ t, xH t G1 = xH t G) (ho : ∀ (t : List hTk) (pl' : Int), xH ((k, pl', v, cix k (tW b n pl q)) :: t) G1 = if r = 0 then xH t G2 else hBad r pl') : (r = 0 → k ≠ 0 → ∃ ts' : List hTk, tL b n q ts' ∧ xH ts' G2 = R) ∧ (r ≠ 0 → R = hBad r pl) := by
  obtain ⟨v', ts', e1, e2, e3, e4, e5, e6⟩ := hL.at ht hp
  have hl := ht.lt hp
  have ev : xH ((k, pl, v', cix k (tW b n pl q)) :: ts') G1 = xH ((k, pl, v, cix k (tW b n pl q)) :: ts') G1 := by
    by_cases e : k = 0 ∨ k = 4
    · exact hO_v e
    · have : v' = v := by
        rcases (show k = 1 ∨ k = 2 ∨ k = 3 by omega) with e9 | e9 | e9
        · have a1 := e3 e9
          have a2 := hv e9
          omega
        · exact e2 (Or.inl e9)
        · exact e2 (Or.inr e9)
      rw [this]
  have hX : R = if r = 0 then xH ts' G2 else hBad r pl := by
    rw [← ho ts' pl, ← ev, h1, ← e1, hR]
  refine ⟨fun h0 hk => ⟨ts', e6 hk, ?_⟩, fun h0 => ?_⟩
  · rw [hX, if_pos h0]
  · rw [hX, if_neg h0]
theorem rd_end {b : Nat → Int32} {n p k pl v q : Int} {ts : List hTk} {G : gS} {R : hRes} (hL : tL b n p ts) (hR : xH ts G = R) (ht : tTok b n p k pl v q) (hp : p ≤ n) (hk : k = 0) (hc : (G 4 4).toInt = -1) : R = (0, -1, (G 4 2).toInt, G 19, tkr (G 29) (G 14 1).toInt.toNat, tkr (G 32) (G 15 1).toInt.toNat, tkr (G 35) (G 16 1).toInt.toNat) := by
  obtain ⟨v', ts', e1, -⟩ := hL.at ht hp
  rw [← hR, e1]
  exact hO_end hc hk
/-- how much a sum that is being read may hold -/
def xNl (j : Nat) (G : gS) : Prop := ((G j 8).toInt = 0 ∧ (G j 1).toInt + (G j 4).toInt ≤ 6 * (G j 5).toInt) ∨ ((G j 8).toInt ≠ 0 ∧ (G j 1).toInt + (G j 4).toInt ≤ 6 * (G j 5).toInt + 1 + (G j 6).toInt)
def xN3 (G : gS) : Prop := ((G 4 4).toInt = 10 → xNl 14 G) ∧ ((G 4 4).toInt = 11 → xNl 15 G) ∧ ((G 4 4).toInt = 12 → xNl 16 G)
theorem xN3.no {G : gS} (h : (G 4 4).toInt ≤ 9) : xN3 G := ⟨fun e => by omega, fun e => by omega, fun e => by omega⟩
theorem xN3.i0 {G : gS} (h : (G 4 4).toInt = -1 ∨ ((G 4 4).toInt = 10 ∧ xNl 14 G)) : xN3 G := ⟨fun e => h.elim (fun q => by omega) (fun q => q.2), fun e => by omega, fun e => by omega⟩
theorem xN3.i1 {G : gS} (h : (G 4 4).toInt = -1 ∨ ((G 4 4).toInt = 11 ∧ xNl 15 G)) : xN3 G := ⟨fun e => by omega, fun e => h.elim (fun q => by omega) (fun q => q.2), fun e => by omega⟩
theorem xN3.i2 {G : gS} (h : (G 4 4).toInt = -1 ∨ ((G 4 4).toInt = 12 ∧ xNl 16 G)) : xN3 G := ⟨fun e => by omega, fun e => by omega, fun e => h.elim (fun q => by omega) (fun q => q.2)⟩
theorem xN3.of {G : gS} (h : ((G 4 4).toInt ≠ 10 ∨ xNl 14 G) ∧ ((G 4 4).toInt ≠ 11 ∨ xNl 15 G) ∧ ((G 4 4).toInt ≠ 12 ∨ xNl 16 G)) : xN3 G := ⟨fun e => h.1.elim (fun q => absurd e q) id, fun e => h.2.1.elim (fun q => absurd e q) id, fun e => h.2.2.elim (fun q => absurd e q) id⟩
def xCN : List Nat := [405, 1409, 1402, 1405, 1406, 1407, 1509, 1502, 1505, 1506, 1507, 1609, 1602, 1605, 1606, 1607]
theorem xN3.un {G G1 : gS} {L : List Nat} (h : xN3 G) (hU : gu_un xcd L G G1) (hL : xNo L xCN = false) : xN3 G1 := by
  have hm : ∀ n : Nat, n ∈ xCN → n ∉ L := by
    intro n h1 h2
    have h3 : xNo L xCN = true := List.any_eq_true.mpr ⟨n, h1, List.contains_iff_mem.mpr h2⟩
    rw [hL] at h3
    cases h3
  have e : ∀ j : Nat, j = 14 ∨ j = 15 ∨ j = 16 → xNl j G1 = xNl j G := by
    intro j hj
    unfold xNl
    rcases hj with rfl | rfl | rfl
    · rw [hU 14 8 (hm 1409 (by decide)), hU 14 1 (hm 1402 (by decide)), hU 14 4 (hm 1405 (by decide)), hU 14 5 (hm 1406 (by decide)), hU 14 6 (hm 1407 (by decide))]
    · rw [hU 15 8 (hm 1509 (by decide)), hU 15 1 (hm 1502 (by decide)), hU 15 4 (hm 1505 (by decide)), hU 15 5 (hm 1506 (by decide)), hU 15 6 (hm 1507 (by decide))]
    · rw [hU 16 8 (hm 1609 (by decide)), hU 16 1 (hm 1602 (by decide)), hU 16 4 (hm 1605 (by decide)), hU 16 5 (hm 1606 (by decide)), hU 16 6 (hm 1607 (by decide))]
  unfold xN3
  rw [hU 4 4 (hm 405 (by decide)), e 14 (by decide), e 15 (by decide), e 16 (by decide)]
  exact h
