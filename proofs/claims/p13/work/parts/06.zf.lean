/-! the class's pass beside psR -/
section XR
variable {G E E1 E2 Q : gS} {C : Nat → List Int} {hj : Nat → Int32} {w0 lv ga st da t fl fo ho : Int32} {n : Nat} {T i s : Int}
theorem xBq_of (hq : xRq G Q C lv ga st da) (e18 : E 18 = G 18) (e20 : E 20 = G 20) (e26 : E 26 = G 26) (e11 : E 11 1 = G 11 1) (e13 : E 13 1 = G 13 1) (mt : (E 6 7).toInt = xTn G ∧ ∀ q : Nat, (q : Int) < xTn G → E 44 q = xTr G q) (hfl : fl = lv - G 6 3 * (t + 1)) : xBq E Q C t fl := by
  obtain ⟨q1, q2, q3, q4, q5, q6, q7, q8, q9, q10, q11, q12, q13, c0, c1, c2, g0, g1, g2⟩ := hq
  refine ⟨by rw [e18]; exact q1, fun q hq => ?_, ?_, by rw [e20, e11]; exact c0, by rw [e26, e13]; exact c2, g0, g2⟩
  · rw [mt.1] at hq
    rw [q6 q hq, mt.2 q hq]
  · unfold psF
    rw [q7, q8, hfl]
/-- the class's state beside the first n sectors -/
def xRl (G : gS) (hj : Nat → Int32) (w0 lv ga st da : Int32) (E : gS) (n : Nat) (sh : Int) : Prop := ∀ (Q : gS) (C : Nat → List Int), xRq G Q C lv ga st da → (∃ f9 : Int32, pR (G 18 0).toInt (psR Q C n (psZ (psHr hj (G 6 1).toInt (G 18 0).toInt) w0)) (E 45) (E 6 12) (E 6 13) (E 6 14) (E 6 17) (E 6 18) (E 6 16) f9) ∧ pL (G 18 0).toInt (psR Q C n (psZ (psHr hj (G 6 1).toInt (G 18 0).toInt) w0)) (E 46) (E 47) (E 48) ∧ (psR Q C n (psZ (psHr hj (G 6 1).toInt (G 18 0).toInt) w0) 4 7).toInt = sh
/-- how many turns were begun -/
def xBg (G : gS) (hj : Nat → Int32) (w0 lv ga st da : Int32) (E : gS) (n : Nat) : Prop := ∀ (Q : gS) (C : Nat → List Int), xRq G Q C lv ga st da → n ≠ 0 → psR Q C n (psZ (psHr hj (G 6 1).toInt (G 18 0).toInt) w0) 4 8 = E 6 19
theorem xRl.at0 (h45 : ∀ q : Nat, (q : Int) < (G 18 0).toInt → E 45 q = hj (16 * (G 6 1).toInt + (q : Int)).toNat) (h46 : ∀ q : Nat, q < 16 → E 46 q = -1) (hs : (G 18 0).toInt ≤ 16) (hz : E 6 12 = w0 ∧ E 6 13 = 0 ∧ E 6 14 = 0 ∧ E 6 16 = 0 ∧ E 6 17 = 0 ∧ E 6 18 = 0 ∧ E 6 19 = 0) : xRl G hj w0 lv ga st da E 0 0 := fun Q C _ => by
  obtain ⟨z1, z2, z3, z4, z5, z6, z7⟩ := hz
  refine ⟨⟨0, fun q hq => ?_, z1.symm, z2.symm, z3.symm, z5.symm, z6.symm, z4.symm, rfl⟩, fun q hq => ⟨?_, fun h9 => absurd rfl h9⟩, rfl⟩
  · show (if (q : Int) < (G 18 0).toInt then hj (16 * (G 6 1).toInt + (q : Int)).toNat else 0) = E 45 q
    rw [if_pos hq, h45 q hq]
  · show (-1 : Int32) = E 46 q
    rw [h46 q (by omega)]
theorem xRl.go (h : xRl G hj w0 lv ga st da E n 0) (hn : (n : Int) = T * s + i) (hs : (G 18 0).toInt = s) (h0 : 0 ≤ i) (his : i < s) (ht : t.toInt = T) (bq : ∀ (Q : gS) (C : Nat → List Int), xRq G Q C lv ga st da → xBq E Q C t fl) {m : Nat} (hm : m = (xTn G).toNat) (hbg : E 6 19 = t + 1)
  (bt : ∀ (Q S : gS) (C : Nat → List Int), xBq E Q C t fl → (pR s S (E 45) (E 6 12) (E 6 13) (E 6 14) (E 6 17) (E 6 18) (E 6 16) 0 ∧ pL s S (E 46) (E 47) (E 48)) → (pR s (psT Q C i t m S) (E1 45) (E1 6 12) (E 6 13) (E 6 14) (E1 6 17) (E 6 18) (E 6 16) fo ∧ pL s (psT Q C i t m S) (E1 46) (E1 47) (E1 48)))
  (hho : gcOK (tkr (G 23) ((G 12 1).toInt).toNat) → ho = st + psC 0 999 (eV (E1 45 i.toNat) ga (tkr (G 23) ((G 12 1).toInt).toNat))) {rd : Int} (hrd : rd = (n : Int) % (G 18 11).toInt) (h11 : 1 ≤ (G 18 11).toInt) {k : Nat} (hk : (G 6 2 + G 18 (30 + rd.toNat)).toInt.toNat = k) {sh : Int32}
  (sw : ∀ Q S : gS, (Q 0 2 = G 18 2 ∧ Q 0 7 = G 18 7 ∧ Q 3 5 = da) → swR S (E 6 13) (E 6 14) (E 6 18) (E 6 16) 0 → swR (psJ Q fo ho k S) (E2 6 13) (E2 6 14) (E2 6 18) (E2 6 16) sh)
  (e45 : E2 45 = E1 45) (e46 : E2 46 = E1 46) (e47 : E2 47 = E1 47) (e48 : E2 48 = E1 48) (e12 : E2 6 12 = E1 6 12) (e17 : E2 6 17 = E1 6 17) (e19 : E2 6 19 = E 6 19) {y : Nat} (hy : y = n + 1) {shi : Int} (hsh : sh.toInt = shi) : xRl G hj w0 lv ga st da E2 y shi ∧ xBg G hj w0 lv ga st da E2 y := by
  have main : ∀ (Q : gS) (C : Nat → List Int), xRq G Q C lv ga st da → ((∃ f9 : Int32, pR (G 18 0).toInt (psR Q C y (psZ (psHr hj (G 6 1).toInt (G 18 0).toInt) w0)) (E2 45) (E2 6 12) (E2 6 13) (E2 6 14) (E2 6 17) (E2 6 18) (E2 6 16) f9) ∧ pL (G 18 0).toInt (psR Q C y (psZ (psHr hj (G 6 1).toInt (G 18 0).toInt) w0)) (E2 46) (E2 47) (E2 48) ∧ (psR Q C y (psZ (psHr hj (G 6 1).toInt (G 18 0).toInt) w0) 4 7).toInt = shi) ∧ psR Q C y (psZ (psHr hj (G 6 1).toInt (G 18 0).toInt) w0) 4 8 = E2 6 19 := fun Q C hq => by
    have hb := bq Q C hq
    obtain ⟨⟨f9, h1⟩, h2, h3⟩ := h Q C hq
    obtain ⟨q1, q2, q3, q4, q5, q6, q7, q8, q9, q10, q11, q12, q13, c0, c1, c2, g0, g1, g2⟩ := hq
    rw [hs] at h1 h2 h3 ⊢
    have h7 : psR Q C n (psZ (psHr hj (G 6 1).toInt s) w0) 4 7 = 0 := Int32.toInt_inj.mp h3
    obtain ⟨b1, b2⟩ := bt Q (psG t (psR Q C n (psZ (psHr hj (G 6 1).toInt s) w0))) C hb ⟨pR.G h1, pL.G h2⟩
    have hs0 : (Q 0 0).toInt = s := by rw [q1, hs]
    have hI := psI_of (Q := Q) hn h0 his hs0
    have hU := psU_of (Q := Q) hn h0 his hs0 ht
    have w := sw Q _ ⟨q2, q3, q12⟩ (pR.sw b1 h7)
    have hr0 : 0 ≤ rd ∧ rd < (G 18 11).toInt := by
      rw [hrd]
      exact ⟨Int.emod_nonneg _ (by omega), Int.emod_lt_of_pos _ (by omega)⟩
    obtain ⟨⟨f8, r1⟩, r2, r3, r4⟩ := pR.N (Q := Q) (C := C) (m := m) (ho := ho) (k := k) (y := (n : Int) + 1) hI hU (by rw [q13, hm]) h7 b1 b2 h0 his (by rw [q11, q9, c1]; exact hho (by rw [← c1]; exact g1)) (by
      rw [q10, q4, ← hrd, q5 rd.toNat (by omega)]
      exact hk) w rfl
    rw [hy]
    rw [show ((n : Int) + 1).toNat = n + 1 by omega] at r1 r2 r3 r4
    refine ⟨⟨⟨f8, ?_⟩, ?_, ?_⟩, ?_⟩
    · rw [e45, e12, e17]
      exact r1
    · rw [e46, e47, e48]
      exact r2
    · rw [r3]
      exact hsh
    · rw [r4, e19, hbg]
  exact ⟨fun Q C hq => (main Q C hq).1, fun Q C hq _ => (main Q C hq).2⟩
theorem xRl.sh {sh sh' : Int} (h : xRl G hj w0 lv ga st da E n sh) (e : sh' = sh) : xRl G hj w0 lv ga st da E n sh' := by
  rw [e]
  exact h
/-- at the end: all sectors, or shaken -/
theorem xRl.fin {sh : Int} {m : Nat} (h : xRl G hj w0 lv ga st da E n sh) (hb : xBg G hj w0 lv ga st da E n) (hn : n ≤ m) (hd : sh ≠ 0 ∨ n = m) : xRl G hj w0 lv ga st da E m sh ∧ xBg G hj w0 lv ga st da E m := by
  rcases hd with g | g
  · have e : ∀ (Q : gS) (C : Nat → List Int), xRq G Q C lv ga st da → psR Q C n (psZ (psHr hj (G 6 1).toInt (G 18 0).toInt) w0) 4 7 ≠ 0 := fun Q C hq e0 => g (by rw [← (h Q C hq).2.2, e0]; rfl)
    refine ⟨fun Q C hq => ?_, fun Q C hq _ => ?_⟩
    · rw [psR_stop (m := m) hn (e Q C hq)]
      exact h Q C hq
    · rw [psR_stop (m := m) hn (e Q C hq)]
      refine hb Q C hq (fun e0 => e Q C hq ?_)
      rw [e0]
      rfl
  · rw [← g]
    exact ⟨h, hb⟩
end XR
/-- what a pass of the class tells: the row that it ran on, its numbers -/
def xOut (G : gS) (hj : Nat → Int32) (w0 st da : Int32) (E : gS) (r : Int) : Prop := ∃ lv ga : Int32, lv.toInt = psMx (psHr hj (G 6 1).toInt (G 18 0).toInt) ((G 18 0).toInt - 1).toNat ∧ ga.toInt = psGa hj (G 6 1).toInt (G 18 1).toInt (G 18 0).toInt lv.toInt ∧ xRl G hj w0 lv ga st da E ((G 6 4).toInt * (G 18 0).toInt).toNat (if r = 2 then 1 else 0) ∧ xBg G hj w0 lv ga st da E ((G 6 4).toInt * (G 18 0).toInt).toNat ∧ (E 6 15).toInt = psMx (E 45) ((G 18 0).toInt - 1).toNat - psMn (E 45) ((G 18 0).toInt - 1).toNat ∧ (r = 2 ∨ (r = 1 ∧ (G 18 8).toInt < (E 6 15).toInt) ∨ (r = 0 ∧ (E 6 15).toInt ≤ (G 18 8).toInt))
