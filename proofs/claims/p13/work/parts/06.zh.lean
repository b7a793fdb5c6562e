/-! passes as functions of the shop (Q: numbers, teeth, sway; 3 6: how many teeth; C: the codes of the three sums), the heights, the wear -/
def pvL (h : Nat → Int32) (r s : Int) : Int32 := Int32.ofInt (psMx (psHr h r s) (s - 1).toNat)
def pvG (h : Nat → Int32) (r n s : Int) : Int32 := Int32.ofInt (psGa h r n s (pvL h r s).toInt)
def pvQ (Q : gS) (h : Nat → Int32) (r : Int) (sp fe st da : Int32) : gS := fun j => if j = 3 then (fun k => if k = 0 then pvL h r (Q 0 0).toInt else if k = 1 then fe else if k = 2 then pvG h r (Q 0 1).toInt (Q 0 0).toInt else if k = 3 then sp else if k = 4 then st else if k = 5 then da else Q 3 k) else Q j
def pvS (Q : gS) (C : Nat → List Int) (h : Nat → Int32) (w : Int32) (r : Int) (sp fe tu st da : Int32) : gS := psR (pvQ Q h r sp fe st da) C (tu.toInt * (Q 0 0).toInt).toNat (psZ (psHr h r (Q 0 0).toInt) w)
def pvW (Q S : gS) : Int := psMx (S 0) ((Q 0 0).toInt - 1).toNat - psMn (S 0) ((Q 0 0).toInt - 1).toNat
def pvV (Q S : gS) : Int := if S 4 7 = 0 then (if (Q 0 8).toInt < pvW Q S then 1 else 0) else 2
def pvOk (Q : gS) (h : Nat → Int32) (r fe tu : Int) : Prop := 1 ≤ psMx (psHr h r (Q 0 0).toInt) ((Q 0 0).toInt - 1).toNat - fe * tu
def pvArg (Q : gS) (a0 : Int) (a1 a2 a3 a4 a5 : Int32) : Prop := 0 ≤ a0 ∧ a0 < (Q 0 1).toInt ∧ 1 ≤ a1.toInt ∧ a1.toInt ≤ 9 ∧ 1 ≤ a2.toInt ∧ a2.toInt ≤ 20 ∧ 1 ≤ a3.toInt ∧ a3.toInt ≤ 12 ∧ 0 ≤ a4.toInt ∧ a4.toInt ≤ 300 ∧ 0 ≤ a5.toInt ∧ a5.toInt ≤ 300
/-- what is told of a pass: wave, time, out, farthest, x, wear, turns begun -/
def pvN (Q S : gS) (wv tm ou pk x we bg : Int32) : Prop := wv.toInt = pvW Q S ∧ S 4 5 = tm ∧ S 4 3 = ou ∧ S 4 4 = pk ∧ S 4 1 = x ∧ S 4 0 = we ∧ S 4 8 = bg
/-- the class's shop, the reference's shop -/
def xSq (G Q : gS) (C : Nat → List Int) : Prop := (∀ q : Nat, q < 12 → q ≠ 10 → Q 0 q = G 18 q) ∧ (∀ q : Nat, (q : Int) < (G 18 11).toInt → Q 2 q = G 18 (30 + q)) ∧ (∀ q : Nat, (q : Int) < xTn G → Q 1 q = xTr G q) ∧ (Q 3 6).toInt = xTn G ∧ C 0 = tkr (G 20) ((G 11 1).toInt).toNat ∧ C 1 = tkr (G 23) ((G 12 1).toInt).toNat ∧ C 2 = tkr (G 26) ((G 13 1).toInt).toNat ∧ gcOK (C 0) ∧ gcOK (C 1) ∧ gcOK (C 2)
def ySq (G Q : gS) (C : Nat → List Int) : Prop := (∀ q : Nat, q < 12 → q ≠ 10 → Q 0 q = G 3 q) ∧ (∀ q : Nat, (q : Int) < (G 3 11).toInt → Q 2 q = G 7 q) ∧ (∀ q : Nat, (q : Int) < (G 3 10).toInt → Q 1 q = G 5 q) ∧ (Q 3 6).toInt = (G 3 10).toInt ∧ C 0 = mL 0 G ∧ C 1 = mL 1 G ∧ C 2 = mL 2 G ∧ gcOK (C 0) ∧ gcOK (C 1) ∧ gcOK (C 2)
def gNo (L C : List Nat) : Bool := C.any (fun n => L.contains n)
theorem gNo.at {L C : List Nat} (hL : gNo L C = false) {n : Nat} (h : n ∈ C) : n ∉ L := fun h2 => by
  have h3 : gNo L C = true := List.any_eq_true.mpr ⟨n, h, List.contains_iff_mem.mpr h2⟩
  rw [hL] at h3
  cases h3
def xSL : List Nat := [1800, 2000, 2300, 2600, 1102, 1202, 1302, 607]
def ySL : List Nat := [300, 500, 700, 1000, 1100, 1200]
theorem xSq.un {G G' Q : gS} {C : Nat → List Int} {L : List Nat} (h : xSq G Q C) (hU : gu_un xcd L G G') (hL : gNo L xSL = false) : xSq G' Q C := by
  unfold xSq xTn xTr at *
  rw [show G' 18 = G 18 from funext fun k => hU 18 k (gNo.at hL (n := 1800) (by decide)), show G' 20 = G 20 from funext fun k => hU 20 k (gNo.at hL (n := 2000) (by decide)), show G' 23 = G 23 from funext fun k => hU 23 k (gNo.at hL (n := 2300) (by decide)), show G' 26 = G 26 from funext fun k => hU 26 k (gNo.at hL (n := 2600) (by decide)), hU 11 1 (gNo.at hL (n := 1102) (by decide)), hU 12 1 (gNo.at hL (n := 1202) (by decide)), hU 13 1 (gNo.at hL (n := 1302) (by decide)), hU 6 6 (gNo.at hL (n := 607) (by decide))]
  exact h
theorem xTok.un {G G' : gS} {L : List Nat} (h : xTok G) (hU : gu_un xcd L G G') (hL : gNo L xSL = false) : xTok G' := by
  unfold xTok at *
  rw [hU 6 6 (gNo.at hL (n := 607) (by decide))]
  exact h
theorem ySq.un {G G' Q : gS} {C : Nat → List Int} {L : List Nat} (h : ySq G Q C) (hU : gu_un ycd L G G') (hL : gNo L ySL = false) : ySq G' Q C := by
  unfold ySq mL at *
  rw [show G' 3 = G 3 from funext fun k => hU 3 k (gNo.at hL (n := 300) (by decide)), show G' 5 = G 5 from funext fun k => hU 5 k (gNo.at hL (n := 500) (by decide)), show G' 7 = G 7 from funext fun k => hU 7 k (gNo.at hL (n := 700) (by decide)), show G' 10 = G 10 from funext fun k => hU 10 k (gNo.at hL (n := 1000) (by decide)), show G' 11 = G 11 from funext fun k => hU 11 k (gNo.at hL (n := 1100) (by decide)), show G' 12 = G 12 from funext fun k => hU 12 k (gNo.at hL (n := 1200) (by decide))]
  exact h
/-- what the lathe of the class holds behind a pass -/
def xPs (Q S E : gS) (r : Int) : Prop := r = pvV Q S ∧ (∀ i : Nat, (i : Int) < (Q 0 0).toInt → S 0 i = E 45 i) ∧ pL (Q 0 0).toInt S (E 46) (E 47) (E 48) ∧ pvN Q S (E 6 15) (E 6 16) (E 6 17) (E 6 18) (E 6 13) (E 6 12) (E 6 19)
theorem pvW_eq {Q S : gS} {h : Nat → Int32} (hs : 1 ≤ (Q 0 0).toInt) (e : ∀ i : Nat, (i : Int) < (Q 0 0).toInt → S 0 i = h i) : pvW Q S = psMx h ((Q 0 0).toInt - 1).toNat - psMn h ((Q 0 0).toInt - 1).toNat := by
  unfold pvW
  rw [psMx_eq (h := S 0) (g := h) (fun i hi => e i (by omega)), psMn_eq (h := S 0) (g := h) (fun i hi => e i (by omega))]
theorem xOut.pv {G E Q : gS} {C : Nat → List Int} {hj h0 : Nat → Int32} {w0 st da a1 a2 a3 : Int32} {r a0 : Int} (h : xOut G hj w0 st da E r) (hq : xSq G Q C) (ht : 1 ≤ (G 6 4).toInt) (hs : 1 ≤ (G 18 0).toInt) (f0 : hj = h0) (f1 : (G 6 1).toInt = a0) (f2 : G 6 2 = a1) (f3 : G 6 3 = a2) (f4 : G 6 4 = a3) : xPs Q (pvS Q C h0 w0 a0 a1 a2 a3 st da) E r := by
  subst f0
  subst f1
  subst f2
  subst f3
  subst f4
  obtain ⟨lv, ga, h1, h2, hR, hB, hw, hr⟩ := h
  obtain ⟨q1, q2, q3, q4, c0, c1, c2, g0, g1, g2⟩ := hq
  have e0 : Q 0 0 = G 18 0 := q1 0 (by decide) (by decide)
  have e1 : Q 0 1 = G 18 1 := q1 1 (by decide) (by decide)
  have e8 : Q 0 8 = G 18 8 := q1 8 (by decide) (by decide)
  have eL : pvL hj (G 6 1).toInt (Q 0 0).toInt = lv := by
    unfold pvL
    rw [e0, ← h1, Int32.ofInt_toInt]
  have eG : pvG hj (G 6 1).toInt (Q 0 1).toInt (Q 0 0).toInt = ga := by
    unfold pvG
    rw [eL, e0, e1, ← h2, Int32.ofInt_toInt]
  have hx : xRq G (pvQ Q hj (G 6 1).toInt (G 6 2) (G 6 3) st da) C lv ga st da := ⟨e0, q1 2 (by decide) (by decide), q1 7 (by decide) (by decide), q1 11 (by decide) (by decide), q2, q3, eL, rfl, eG, rfl, rfl, rfl, q4, c0, c1, c2, g0, g1, g2⟩
  have eS : pvS Q C hj w0 (G 6 1).toInt (G 6 2) (G 6 3) (G 6 4) st da = psR (pvQ Q hj (G 6 1).toInt (G 6 2) (G 6 3) st da) C ((G 6 4).toInt * (G 18 0).toInt).toNat (psZ (psHr hj (G 6 1).toInt (G 18 0).toInt) w0) := by
    unfold pvS
    rw [e0]
  have hn : ((G 6 4).toInt * (G 18 0).toInt).toNat ≠ 0 := by
    have h9 : 1 * 1 ≤ (G 6 4).toInt * (G 18 0).toInt := Int.mul_le_mul ht hs (by decide) (by omega)
    omega
  obtain ⟨⟨f9, p1, p2, p3, p4, p5, p6, p7, p8⟩, l1, s1⟩ := hR _ C hx
  have b1 := hB _ C hx hn
  rw [eS]
  generalize psR (pvQ Q hj (G 6 1).toInt (G 6 2) (G 6 3) st da) C ((G 6 4).toInt * (G 18 0).toInt).toNat (psZ (psHr hj (G 6 1).toInt (G 18 0).toInt) w0) = S at *
  have eW : pvW Q S = (E 6 15).toInt := by
    rw [pvW_eq (by rw [e0]; exact hs) (by rw [e0]; exact p1), e0, hw]
  refine ⟨?_, by rw [e0]; exact p1, by rw [e0]; exact l1, eW.symm, p7, p5, p6, p3, p2, b1⟩
  unfold pvV
  rw [eW, e8]
  rcases hr with h9 | ⟨h9, h8⟩ | ⟨h9, h8⟩
  · rw [if_neg (fun h7 => by rw [h9, if_pos rfl, h7] at s1; exact absurd s1 (by decide))]
    exact h9
  · rw [if_pos (Int32.toInt_inj.mp (by rw [s1, h9]; rfl)), if_pos h8]
    exact h9
  · rw [if_pos (Int32.toInt_inj.mp (by rw [s1, h9]; rfl)), if_neg (by omega)]
    exact h9
/-! rows that are alike where it counts -/
theorem psHr_eq {h g : Nat → Int32} {r s : Int} (e : ∀ q : Nat, q < 96 → h q = g q) (h0 : 0 ≤ r) (h1 : r ≤ 5) (hs : s ≤ 16) : psHr h r s = psHr g r s := funext fun q => by
  unfold psHr
  by_cases c : (q : Int) < s
  · rw [if_pos c, if_pos c]
    exact e _ (by omega)
  · rw [if_neg c, if_neg c]
theorem psGa_eq {h g : Nat → Int32} {r n s lv : Int} (e : ∀ q : Nat, q < 96 → h q = g q) (h0 : 0 ≤ r) (h1 : r ≤ 5) (hn : n ≤ 6) (hs : s ≤ 16) : psGa h r n s lv = psGa g r n s lv := by
  have a : 1 ≤ r → psMn (fun q => h ((16 * (r - 1)).toNat + q)) (s - 1).toNat = psMn (fun q => g ((16 * (r - 1)).toNat + q)) (s - 1).toNat := fun _ => psMn_eq (fun i hi => e _ (by omega))
  have b : r + 1 < n → psMn (fun q => h ((16 * (r + 1)).toNat + q)) (s - 1).toNat = psMn (fun q => g ((16 * (r + 1)).toNat + q)) (s - 1).toNat := fun _ => psMn_eq (fun i hi => e _ (by omega))
  unfold psGa
  by_cases c : 1 ≤ r
  · rw [if_pos c, if_pos c, a c]
    by_cases d : r + 1 < n
    · rw [if_pos d, if_pos d, b d]
    · rw [if_neg d, if_neg d]
  · rw [if_neg c, if_neg c]
    by_cases d : r + 1 < n
    · rw [if_pos d, if_pos d, b d]
    · rw [if_neg d, if_neg d]
theorem pvS_eq {Q : gS} {C : Nat → List Int} {h g : Nat → Int32} {w : Int32} {r : Int} {sp fe tu st da : Int32} (e : ∀ q : Nat, q < 96 → h q = g q) (h0 : 0 ≤ r) (h1 : r ≤ 5) (hn : (Q 0 1).toInt ≤ 6) (hs : (Q 0 0).toInt ≤ 16) : pvS Q C h w r sp fe tu st da = pvS Q C g w r sp fe tu st da := by
  unfold pvS pvQ pvG pvL
  rw [psHr_eq e h0 h1 hs, psGa_eq e h0 h1 hn hs]
theorem pvOk_eq {Q : gS} {h g : Nat → Int32} {r fe tu : Int} (e : ∀ q : Nat, q < 96 → h q = g q) (h0 : 0 ≤ r) (h1 : r ≤ 5) (hs : (Q 0 0).toInt ≤ 16) : pvOk Q h r fe tu = pvOk Q g r fe tu := by
  unfold pvOk
  rw [psHr_eq e h0 h1 hs]
/-! the piece, alike on both sides: heights (0), the pass, the turn, the tooth, x and 20000 of who left a place (1 .. 4), 5: wear, passes; 6: what is told of the latest pass, 7: is there one -/
def xPc (G : gS) : gS := fun j => if j = 0 then G 38 else if j = 1 then G 40 else if j = 2 then G 41 else if j = 3 then G 42 else if j = 4 then G 43 else if j = 5 then (fun k => if k = 0 then G 5 2 else G 5 3) else if j = 6 then G 90 else fun _ => G 0 11
def yPc (G : gS) : gS := fun j => if j = 0 then G 14 else if j = 1 then G 15 else if j = 2 then G 16 else if j = 3 then G 17 else if j = 4 then (fun q => G 18 q + 20000) else if j = 5 then (fun k => if k = 0 then G 0 28 else G 0 29) else if j = 6 then G 22 else fun _ => G 0 37
def pcB (H H2 : gS) : Prop := (∀ q : Nat, q < 96 → H 0 q = H2 0 q ∧ H 1 q = H2 1 q ∧ (H 1 q ≠ -1 → H 2 q = H2 2 q ∧ H 3 q = H2 3 q ∧ H 4 q = H2 4 q)) ∧ H 5 0 = H2 5 0 ∧ H 5 1 = H2 5 1
def pcK (H H2 : gS) : Prop := H 7 0 = H2 7 0 ∧ (H 7 0 ≠ 0 → ∀ q : Nat, q < 7 → H 6 q = H2 6 q)
theorem pcB.rf {H : gS} : pcB H H := ⟨fun _ _ => ⟨rfl, rfl, fun _ => ⟨rfl, rfl, rfl⟩⟩, rfl, rfl⟩
theorem pcK.rf {H : gS} : pcK H H := ⟨rfl, fun _ _ _ => rfl⟩
theorem pcB.sy {H H2 : gS} (h : pcB H H2) : pcB H2 H := ⟨fun q hq => by
  obtain ⟨a, b, c⟩ := h.1 q hq
  refine ⟨a.symm, b.symm, fun d => ?_⟩
  obtain ⟨e, f, g⟩ := c (by rw [b]; exact d)
  exact ⟨e.symm, f.symm, g.symm⟩, h.2.1.symm, h.2.2.symm⟩
theorem pcK.sy {H H2 : gS} (h : pcK H H2) : pcK H2 H := ⟨h.1.symm, fun d q hq => (h.2 (by rw [h.1]; exact d) q hq).symm⟩
theorem pcB.tr {H H1 H2 : gS} (h : pcB H H1) (g : pcB H1 H2) : pcB H H2 := ⟨fun q hq => by
  obtain ⟨a, b, c⟩ := h.1 q hq
  obtain ⟨a', b', c'⟩ := g.1 q hq
  refine ⟨a.trans a', b.trans b', fun d => ?_⟩
  obtain ⟨e, f, i⟩ := c d
  obtain ⟨e', f', i'⟩ := c' (by rw [← b]; exact d)
  exact ⟨e.trans e', f.trans f', i.trans i'⟩, h.2.1.trans g.2.1, h.2.2.trans g.2.2⟩
theorem pcK.tr {H H1 H2 : gS} (h : pcK H H1) (g : pcK H1 H2) : pcK H H2 := ⟨h.1.trans g.1, fun d q hq => (h.2 d q hq).trans (g.2 (by rw [← h.1]; exact d) q hq)⟩
/-- both sides go on -/
theorem pcB.go {H H2 H' H2' : gS} (h : pcB H H2) (g : pcB H H') (g2 : pcB H2 H2') : pcB H' H2' := (g.sy.tr h).tr g2
theorem pcK.go {H H2 H' H2' : gS} (h : pcK H H2) (g : pcK H H') (g2 : pcK H2 H2') : pcK H' H2' := (g.sy.tr h).tr g2
def xBL : List Nat := [3800, 4000, 4100, 4200, 4300, 503, 504]
def xKL : List Nat := [9000, 12]
def yBL : List Nat := [1400, 1500, 1600, 1700, 1800, 29, 30]
def yKL : List Nat := [2200, 38]
theorem pcB.xun {G G' : gS} {L : List Nat} (hU : gu_un xcd L G G') (hL : gNo L xBL = false) : pcB (xPc G) (xPc G') := by
  have a : ∀ k, G' 38 k = G 38 k := fun k => hU 38 k (gNo.at hL (n := 3800) (by decide))
  have b : ∀ k, G' 40 k = G 40 k := fun k => hU 40 k (gNo.at hL (n := 4000) (by decide))
  have c : ∀ k, G' 41 k = G 41 k := fun k => hU 41 k (gNo.at hL (n := 4100) (by decide))
  have d : ∀ k, G' 42 k = G 42 k := fun k => hU 42 k (gNo.at hL (n := 4200) (by decide))
  have e : ∀ k, G' 43 k = G 43 k := fun k => hU 43 k (gNo.at hL (n := 4300) (by decide))
  exact ⟨fun q _ => ⟨(a q).symm, (b q).symm, fun _ => ⟨(c q).symm, (d q).symm, (e q).symm⟩⟩, (hU 5 2 (gNo.at hL (n := 503) (by decide))).symm, (hU 5 3 (gNo.at hL (n := 504) (by decide))).symm⟩
theorem pcK.xun {G G' : gS} {L : List Nat} (hU : gu_un xcd L G G') (hL : gNo L xKL = false) : pcK (xPc G) (xPc G') := ⟨(hU 0 11 (gNo.at hL (n := 12) (by decide))).symm, fun _ q _ => (hU 90 q (gNo.at hL (n := 9000) (by decide))).symm⟩
theorem pcB.yun {G G' : gS} {L : List Nat} (hU : gu_un ycd L G G') (hL : gNo L yBL = false) : pcB (yPc G) (yPc G') := by
  have a : ∀ k, G' 14 k = G 14 k := fun k => hU 14 k (gNo.at hL (n := 1400) (by decide))
  have b : ∀ k, G' 15 k = G 15 k := fun k => hU 15 k (gNo.at hL (n := 1500) (by decide))
  have c : ∀ k, G' 16 k = G 16 k := fun k => hU 16 k (gNo.at hL (n := 1600) (by decide))
  have d : ∀ k, G' 17 k = G 17 k := fun k => hU 17 k (gNo.at hL (n := 1700) (by decide))
  have e : ∀ k, G' 18 k = G 18 k := fun k => hU 18 k (gNo.at hL (n := 1800) (by decide))
  exact ⟨fun q _ => ⟨(a q).symm, (b q).symm, fun _ => ⟨(c q).symm, (d q).symm, congrArg (· + 20000) (e q).symm⟩⟩, (hU 0 28 (gNo.at hL (n := 29) (by decide))).symm, (hU 0 29 (gNo.at hL (n := 30) (by decide))).symm⟩
theorem pcK.yun {G G' : gS} {L : List Nat} (hU : gu_un ycd L G G') (hL : gNo L yKL = false) : pcK (yPc G) (yPc G') := ⟨(hU 0 37 (gNo.at hL (n := 38) (by decide))).symm, fun _ q _ => (hU 22 q (gNo.at hL (n := 2200) (by decide))).symm⟩
/-- fresh -/
def pcF (v : Int32) (H : gS) : Prop := (∀ q : Nat, q < 96 → H 0 q = v ∧ H 1 q = -1) ∧ H 5 0 = 0 ∧ H 5 1 = 0
theorem pcF.eq {v : Int32} {H H2 : gS} (h : pcF v H) (g : pcF v H2) : pcB H H2 := ⟨fun q hq => ⟨(h.1 q hq).1.trans (g.1 q hq).1.symm, (h.1 q hq).2.trans (g.1 q hq).2.symm, fun d => absurd (h.1 q hq).2 d⟩, h.2.1.trans g.2.1.symm, h.2.2.trans g.2.2.symm⟩
/-- a place is set by hand -/
def pcU (p : Nat) (v : Int32) (H H' : gS) : Prop := (∀ q : Nat, q ≠ p → H' 0 q = H 0 q ∧ H' 1 q = H 1 q) ∧ H' 0 p = v ∧ H' 1 p = -1 ∧ (∀ q : Nat, H' 2 q = H 2 q ∧ H' 3 q = H 3 q ∧ H' 4 q = H 4 q) ∧ H' 5 0 = H 5 0 ∧ H' 5 1 = H 5 1
theorem pcU.eq {p : Nat} {v : Int32} {H H2 H' H2' : gS} (h : pcB H H2) (g : pcU p v H H') (g2 : pcU p v H2 H2') : pcB H' H2' := by
  obtain ⟨a1, a2, a3, a4, a5, a6⟩ := g
  obtain ⟨b1, b2, b3, b4, b5, b6⟩ := g2
  refine ⟨fun q hq => ?_, by rw [a5, b5]; exact h.2.1, by rw [a6, b6]; exact h.2.2⟩
  obtain ⟨h1, h2, h3⟩ := h.1 q hq
  by_cases e : q = p
  · subst e
    exact ⟨by rw [a2, b2], by rw [a3, b3], fun d => absurd a3 d⟩
  · rw [(a1 q e).1, (a1 q e).2, (b1 q e).1, (b1 q e).2, (a4 q).1, (a4 q).2.1, (a4 q).2.2, (b4 q).1, (b4 q).2.1, (b4 q).2.2]
    exact ⟨h1, h2, h3⟩
theorem pcU_up {G : gS} {k : Nat} {v : Int32} : pcU k v (xPc G) (xPc (gu_up (gu_up G 38 k v) 40 k (-1))) := ⟨fun q e => ⟨show upd (G 38) k v q = G 38 q from if_neg e, show upd (G 40) k (-1) q = G 40 q from if_neg e⟩, show upd (G 38) k v k = v from if_pos rfl, show upd (G 40) k (-1) k = -1 from if_pos rfl, fun q => ⟨rfl, rfl, rfl⟩, rfl, rfl⟩
/-- the wear alone is another -/
def pcW (v : Int32) (H H' : gS) : Prop := (∀ q : Nat, H' 0 q = H 0 q ∧ H' 1 q = H 1 q ∧ H' 2 q = H 2 q ∧ H' 3 q = H 3 q ∧ H' 4 q = H 4 q) ∧ H' 5 0 = v ∧ H' 5 1 = H 5 1
theorem pcW.eq {v : Int32} {H H2 H' H2' : gS} (h : pcB H H2) (g : pcW v H H') (g2 : pcW v H2 H2') : pcB H' H2' := ⟨fun q hq => by
  obtain ⟨a1, a2, a3, a4, a5⟩ := g.1 q
  obtain ⟨b1, b2, b3, b4, b5⟩ := g2.1 q
  rw [a1, a2, a3, a4, a5, b1, b2, b3, b4, b5]
  exact h.1 q hq, g.2.1.trans g2.2.1.symm, by rw [g.2.2, g2.2.2]; exact h.2.2⟩
/-- a pass is cut: a ring's heights f, who left them a b c (a -1: as it was), the wear; one more pass -/
def pcT (s r : Int) (f a b c : Nat → Int32) (we : Int32) (H H' : gS) : Prop := (∀ q : Nat, ((q : Int) < 16 * r ∨ 16 * r + s ≤ (q : Int)) → H' 0 q = H 0 q ∧ H' 1 q = H 1 q ∧ H' 2 q = H 2 q ∧ H' 3 q = H 3 q ∧ H' 4 q = H 4 q) ∧ (∀ i : Nat, (i : Int) < s → H' 0 (16 * r + (i : Int)).toNat = f i ∧ (a i = -1 → H' 1 (16 * r + (i : Int)).toNat = H 1 (16 * r + (i : Int)).toNat ∧ H' 2 (16 * r + (i : Int)).toNat = H 2 (16 * r + (i : Int)).toNat ∧ H' 3 (16 * r + (i : Int)).toNat = H 3 (16 * r + (i : Int)).toNat ∧ H' 4 (16 * r + (i : Int)).toNat = H 4 (16 * r + (i : Int)).toNat) ∧ (a i ≠ -1 → H' 1 (16 * r + (i : Int)).toNat = H 5 1 ∧ H' 2 (16 * r + (i : Int)).toNat = a i ∧ H' 3 (16 * r + (i : Int)).toNat = b i ∧ H' 4 (16 * r + (i : Int)).toNat = c i + 20000)) ∧ H' 5 0 = we ∧ H' 5 1 = H 5 1 + 1
theorem pcT.eq {s r : Int} {f a b c : Nat → Int32} {we : Int32} {H H2 H' H2' : gS} (h : pcB H H2) (g : pcT s r f a b c we H H') (g2 : pcT s r f a b c we H2 H2') (h0 : 0 ≤ r) : pcB H' H2' := by
  obtain ⟨a1, a2, a3, a4⟩ := g
  obtain ⟨b1, b2, b3, b4⟩ := g2
  refine ⟨fun q hq => ?_, by rw [a3, b3], by rw [a4, b4, h.2.2]⟩
  obtain ⟨h1, h2, h3⟩ := h.1 q hq
  by_cases e : (q : Int) < 16 * r ∨ 16 * r + s ≤ (q : Int)
  · obtain ⟨c1, c2, c3, c4, c5⟩ := a1 q e
    obtain ⟨d1, d2, d3, d4, d5⟩ := b1 q e
    rw [c1, c2, c3, c4, c5, d1, d2, d3, d4, d5]
    exact ⟨h1, h2, h3⟩
  · obtain ⟨i, hi⟩ : ∃ i : Nat, (q : Int) = 16 * r + (i : Int) := ⟨(q - 16 * r).toNat, by omega⟩
    have hq2 : (16 * r + (i : Int)).toNat = q := by omega
    have c1 := a2 i (by omega)
    have d1 := b2 i (by omega)
    rw [hq2] at c1 d1
    obtain ⟨c1, c2, c3⟩ := c1
    obtain ⟨d1, d2, d3⟩ := d1
    by_cases e2 : a i = -1
    · obtain ⟨x1, x2, x3, x4⟩ := c2 e2
      obtain ⟨y1, y2, y3, y4⟩ := d2 e2
      rw [c1, d1, x1, x2, x3, x4, y1, y2, y3, y4]
      exact ⟨rfl, h2, h3⟩
    · obtain ⟨x1, x2, x3, x4⟩ := c3 e2
      obtain ⟨y1, y2, y3, y4⟩ := d3 e2
      rw [c1, d1, x1, x2, x3, x4, y1, y2, y3, y4]
      exact ⟨rfl, h.2.2, fun _ => ⟨rfl, rfl, rfl⟩⟩
/-- a ring's first heights are put into a row -/
def sHr (h f : Nat → Int32) (r n : Int) : Nat → Int32 := fun q => if 16 * r ≤ (q : Int) ∧ (q : Int) < 16 * r + n then f ((q : Int) - 16 * r).toNat else h q
theorem sHr_0 {h f : Nat → Int32} {r n : Int} (hn : n = 0) : ∀ q : Nat, h q = sHr h f r n q := fun q => by
  unfold sHr
  rw [if_neg (by omega)]
theorem sHr_1 {h f f' : Nat → Int32} {r i y k : Int} {v : Int32} (g : ∀ q : Nat, f' q = sHr h f r i q) (h0 : 0 ≤ i) (hr : 0 ≤ r) (hk : k = 16 * r + i) (hv : v = f i.toNat) (hy : y = i + 1) : ∀ q : Nat, upd f' k.toNat v q = sHr h f r y q := fun q => by
  by_cases e : q = k.toNat
  · rw [show upd f' k.toNat v q = v from if_pos e, hv]
    unfold sHr
    rw [if_pos (by omega), show ((q : Int) - 16 * r).toNat = i.toNat by omega]
  · rw [show upd f' k.toNat v q = f' q from if_neg e, g q]
    unfold sHr
    by_cases c : 16 * r ≤ (q : Int) ∧ (q : Int) < 16 * r + i
    · rw [if_pos c, if_pos (by omega)]
    · rw [if_neg c, if_neg (by omega)]
/-- who left a ring's first places -/
def tkR (r n : Int) (a b c : Nat → Int32) (ps : Int32) (A B C D A' B' C' D' : Nat → Int32) : Prop := (∀ q : Nat, ((q : Int) < 16 * r ∨ 16 * r + n ≤ (q : Int)) → A' q = A q ∧ B' q = B q ∧ C' q = C q ∧ D' q = D q) ∧ ∀ i : Nat, (i : Int) < n → (a i = -1 → A' (16 * r + (i : Int)).toNat = A (16 * r + (i : Int)).toNat ∧ B' (16 * r + (i : Int)).toNat = B (16 * r + (i : Int)).toNat ∧ C' (16 * r + (i : Int)).toNat = C (16 * r + (i : Int)).toNat ∧ D' (16 * r + (i : Int)).toNat = D (16 * r + (i : Int)).toNat) ∧ (a i ≠ -1 → A' (16 * r + (i : Int)).toNat = ps ∧ B' (16 * r + (i : Int)).toNat = a i ∧ C' (16 * r + (i : Int)).toNat = b i ∧ D' (16 * r + (i : Int)).toNat = c i + 20000)
section TKR
variable {r n y k : Int} {a b c : Nat → Int32} {ps va vb vc : Int32} {A B C D A' B' C' D' A2 B2 C2 D2 : Nat → Int32}
theorem tkR.at0 (hn : n = 0) : tkR r n a b c ps A B C D A B C D := by
  subst hn
  exact ⟨fun q _ => ⟨rfl, rfl, rfl, rfl⟩, fun i hi => by omega⟩
theorem tkR.no (h : tkR r n a b c ps A B C D A' B' C' D') (h0 : 0 ≤ n) (hr : 0 ≤ r) (hv : (a n.toNat).toInt = -1) (hy : y = n + 1) : tkR r y a b c ps A B C D A' B' C' D' := by
  obtain ⟨h1, h2⟩ := h
  have e : a n.toNat = -1 := Int32.toInt_inj.mp hv
  refine ⟨fun q hq => h1 q (by omega), fun i hi => ?_⟩
  by_cases c : i = n.toNat
  · subst c
    exact ⟨fun _ => h1 _ (by omega), fun g => absurd e g⟩
  · exact h2 i (by omega)
theorem tkR.yes (h : tkR r n a b c ps A B C D A' B' C' D') (h0 : 0 ≤ n) (hr : 0 ≤ r) (hv : (a n.toNat).toInt ≠ -1) (hk : k = 16 * r + n) (ha : va = a n.toNat) (hb : vb = b n.toNat) (hc : vc = c n.toNat + 20000) (eA : A2 = upd A' k.toNat ps) (eB : B2 = upd B' k.toNat va) (eC : C2 = upd C' k.toNat vb) (eD : D2 = upd D' k.toNat vc) (hy : y = n + 1) : tkR r y a b c ps A B C D A2 B2 C2 D2 := by
  obtain ⟨h1, h2⟩ := h
  have e : a n.toNat ≠ -1 := fun q => hv (by rw [q]; rfl)
  rw [eA, eB, eC, eD]
  have u : ∀ (f : Nat → Int32) (v : Int32) (q : Nat), q ≠ k.toNat → upd f k.toNat v q = f q := fun f v q hq => if_neg hq
  have w : ∀ (f : Nat → Int32) (v : Int32) (q : Nat), q = k.toNat → upd f k.toNat v q = v := fun f v q hq => if_pos hq
  refine ⟨fun q hq => ?_, fun i hi => ?_⟩
  · rw [u _ _ q (by omega), u _ _ q (by omega), u _ _ q (by omega), u _ _ q (by omega)]
    exact h1 q (by omega)
  · by_cases c9 : i = n.toNat
    · rw [w _ _ _ (by omega), w _ _ _ (by omega), w _ _ _ (by omega), w _ _ _ (by omega), c9]
      exact ⟨fun g => absurd g e, fun _ => ⟨rfl, ha, hb, hc⟩⟩
    · rw [u _ _ _ (by omega), u _ _ _ (by omega), u _ _ _ (by omega), u _ _ _ (by omega)]
      exact h2 i (by omega)
end TKR
theorem pcT.mk {s r : Int} {f a b c : Nat → Int32} {we : Int32} {H H' : gS} (h0 : 0 ≤ r) (h : ∀ q : Nat, H' 0 q = sHr (H 0) f r s q) (t : tkR r s a b c (H 5 1) (H 1) (H 2) (H 3) (H 4) (H' 1) (H' 2) (H' 3) (H' 4)) (hw : H' 5 0 = we) (hp : H' 5 1 = H 5 1 + 1) : pcT s r f a b c we H H' := by
  obtain ⟨t1, t2⟩ := t
  refine ⟨fun q hq => ⟨?_, t1 q hq⟩, fun i hi => ⟨?_, t2 i hi⟩, hw, hp⟩
  · rw [h q]
    unfold sHr
    rw [if_neg (by omega)]
  · rw [h]
    unfold sHr
    rw [if_pos (by omega), show (((16 * r + (i : Int)).toNat : Int) - 16 * r).toNat = i by omega]
/-- told again of who left it, by the class's rows -/
theorem pcT.of {s r : Int} {f f' a b c a' b' c' : Nat → Int32} {we we' : Int32} {H H' : gS} (g : pcT s r f a b c we H H') (hf : ∀ i : Nat, (i : Int) < s → f' i = f i) (hl : ∀ i : Nat, (i : Int) < s → a' i = a i ∧ (a' i ≠ -1 → b' i = b i ∧ c' i = c i)) (hw : we' = we) : pcT s r f' a' b' c' we' H H' := by
  obtain ⟨a1, a2, a3, a4⟩ := g
  refine ⟨a1, fun i hi => ?_, by rw [hw]; exact a3, a4⟩
  obtain ⟨c1, c2, c3⟩ := a2 i hi
  obtain ⟨l1, l2⟩ := hl i hi
  refine ⟨by rw [hf i hi]; exact c1, fun e => c2 (by rw [← l1]; exact e), fun e => ?_⟩
  obtain ⟨m1, m2⟩ := l2 e
  rw [l1] at e
  obtain ⟨n1, n2, n3, n4⟩ := c3 e
  exact ⟨n1, by rw [l1]; exact n2, by rw [m1]; exact n3, by rw [m2]; exact n4⟩
theorem pcT.xun {G1 G2 T1 T2 : gS} {L L' : List Nat} {s r : Int} {f a b c : Nat → Int32} {we : Int32} (g : pcT s r f a b c we (xPc G2) (xPc T1)) (hU : gu_un xcd L G1 G2) (hL : gNo L xBL = false) (hV : gu_un xcd L' T1 T2) (hL' : gNo L' xBL = false) : pcT s r f a b c we (xPc G1) (xPc T2) := by
  have e : ∀ {A B : gS} {M : List Nat}, gu_un xcd M A B → gNo M xBL = false → B 38 = A 38 ∧ B 40 = A 40 ∧ B 41 = A 41 ∧ B 42 = A 42 ∧ B 43 = A 43 ∧ B 5 2 = A 5 2 ∧ B 5 3 = A 5 3 := fun hW hM => ⟨funext fun k => hW 38 k (gNo.at hM (n := 3800) (by decide)), funext fun k => hW 40 k (gNo.at hM (n := 4000) (by decide)), funext fun k => hW 41 k (gNo.at hM (n := 4100) (by decide)), funext fun k => hW 42 k (gNo.at hM (n := 4200) (by decide)), funext fun k => hW 43 k (gNo.at hM (n := 4300) (by decide)), hW 5 2 (gNo.at hM (n := 503) (by decide)), hW 5 3 (gNo.at hM (n := 504) (by decide))⟩
  obtain ⟨u1, u2, u3, u4, u5, u6, u7⟩ := e hU hL
  obtain ⟨v1, v2, v3, v4, v5, v6, v7⟩ := e hV hL'
  have p0 : ∀ {A : gS}, xPc A 0 = A 38 := rfl
  have p1 : ∀ {A : gS}, xPc A 1 = A 40 := rfl
  have p2 : ∀ {A : gS}, xPc A 2 = A 41 := rfl
  have p3 : ∀ {A : gS}, xPc A 3 = A 42 := rfl
  have p4 : ∀ {A : gS}, xPc A 4 = A 43 := rfl
  have p5 : ∀ {A : gS}, xPc A 5 0 = A 5 2 := rfl
  have p6 : ∀ {A : gS}, xPc A 5 1 = A 5 3 := rfl
  unfold pcT at *
  simp only [p0, p1, p2, p3, p4, p5, p6] at g ⊢
  rw [v1, v2, v3, v4, v5, v6, v7, ← u1, ← u2, ← u3, ← u4, ← u5, ← u7]
  exact g
theorem cu_x {Q S E G T G' : gS} {L L' : List Nat} {s r0 a0 r : Int} (hp : xPs Q S E r) (tp : pcT s r0 (E 45) (E 46) (E 47) (E 48) (E 6 12) (xPc E) (xPc T)) (hs : s = (Q 0 0).toInt) (hr : r0 = a0) (hU : gu_un xcd L G E) (hL : gNo L xBL = false) (hV : gu_un xcd L' T G') (hL' : gNo L' xBL = false) : pcT (Q 0 0).toInt a0 (S 0) (S 1) (S 2) (S 3) (S 4 0) (xPc G) (xPc G') := by
  subst hs
  subst hr
  obtain ⟨h1, h2, h3, h4⟩ := hp
  exact pcT.of (pcT.xun tp hU hL hV hL') h2 h3 h4.2.2.2.2.2.1
theorem pvN.at {Q S : gS} {a b c d e f g a' b' c' d' e' f' g' : Int32} (h : pvN Q S a b c d e f g) (h1 : a' = a) (h2 : b' = b) (h3 : c' = c) (h4 : d' = d) (h5 : e' = e) (h6 : f' = f) (h7 : g' = g) : pvN Q S a' b' c' d' e' f' g' := by
  rw [h1, h2, h3, h4, h5, h6, h7]
  exact h
/-- what is told of the latest pass -/
def pcN (Q S H : gS) : Prop := H 7 0 = 1 ∧ pvN Q S (H 6 0) (H 6 1) (H 6 2) (H 6 3) (H 6 4) (H 6 5) (H 6 6)
theorem pcN.eq {Q S H H2 : gS} (h : pcN Q S H) (g : pcN Q S H2) : pcK H H2 := by
  obtain ⟨h0, h1, h2, h3, h4, h5, h6, h7⟩ := h
  obtain ⟨g0, g1, g2, g3, g4, g5, g6, g7⟩ := g
  refine ⟨h0.trans g0.symm, fun _ q hq => ?_⟩
  rcases (show q = 0 ∨ q = 1 ∨ q = 2 ∨ q = 3 ∨ q = 4 ∨ q = 5 ∨ q = 6 by omega) with rfl | rfl | rfl | rfl | rfl | rfl | rfl
  · exact Int32.toInt_inj.mp (h1.trans g1.symm)
  · exact h2.symm.trans g2
  · exact h3.symm.trans g3
  · exact h4.symm.trans g4
  · exact h5.symm.trans g5
  · exact h6.symm.trans g6
  · exact h7.symm.trans g7
def pvH (Q : gS) (C : Nat → List Int) (H : gS) (a0 : Int) (a1 a2 a3 a4 a5 : Int32) : gS := pvS Q C (H 0) (H 5 0) a0 a1 a2 a3 a4 a5
/-- a pass that is tried, one that is cut -/
def atR (Q : gS) (C : Nat → List Int) (H H' : gS) (a0 : Int) (a1 a2 a3 a4 a5 : Int32) (r : Int) : Prop := (¬ pvArg Q a0 a1 a2 a3 a4 a5 ∧ r = -2 ∧ pcB H H' ∧ pcK H H') ∨ (pvArg Q a0 a1 a2 a3 a4 a5 ∧ ¬ pvOk Q (H 0) a0 a2.toInt a3.toInt ∧ r = -4 ∧ pcB H H' ∧ pcK H H') ∨ (pvArg Q a0 a1 a2 a3 a4 a5 ∧ pvOk Q (H 0) a0 a2.toInt a3.toInt ∧ r = pvV Q (pvH Q C H a0 a1 a2 a3 a4 a5) ∧ pcB H H' ∧ pcN Q (pvH Q C H a0 a1 a2 a3 a4 a5) H')
def cuR (Q : gS) (C : Nat → List Int) (H H' : gS) (a0 : Int) (a1 a2 a3 a4 a5 : Int32) (r : Int) : Prop := (¬ pvArg Q a0 a1 a2 a3 a4 a5 ∧ r = -2 ∧ pcB H H' ∧ pcK H H') ∨ (pvArg Q a0 a1 a2 a3 a4 a5 ∧ ¬ pvOk Q (H 0) a0 a2.toInt a3.toInt ∧ r = -4 ∧ pcB H H' ∧ pcK H H') ∨ (pvArg Q a0 a1 a2 a3 a4 a5 ∧ pvOk Q (H 0) a0 a2.toInt a3.toInt ∧ 200 ≤ (H 5 1).toInt ∧ r = -3 ∧ pcB H H' ∧ pcK H H') ∨ (pvArg Q a0 a1 a2 a3 a4 a5 ∧ pvOk Q (H 0) a0 a2.toInt a3.toInt ∧ (H 5 1).toInt < 200 ∧ r = pvV Q (pvH Q C H a0 a1 a2 a3 a4 a5) ∧ pcT (Q 0 0).toInt a0 (pvH Q C H a0 a1 a2 a3 a4 a5 0) (pvH Q C H a0 a1 a2 a3 a4 a5 1) (pvH Q C H a0 a1 a2 a3 a4 a5 2) (pvH Q C H a0 a1 a2 a3 a4 a5 3) (pvH Q C H a0 a1 a2 a3 a4 a5 4 0) H H' ∧ pcN Q (pvH Q C H a0 a1 a2 a3 a4 a5) H')
section PCE
variable {Q : gS} {C : Nat → List Int} {H H2 H' H2' : gS} {a0 : Int} {a1 a2 a3 a4 a5 : Int32} {r r2 : Int}
theorem pvH_eq (h : pcB H H2) (ha : pvArg Q a0 a1 a2 a3 a4 a5) (hn : (Q 0 1).toInt ≤ 6) (hs : (Q 0 0).toInt ≤ 16) : pvH Q C H a0 a1 a2 a3 a4 a5 = pvH Q C H2 a0 a1 a2 a3 a4 a5 := by
  obtain ⟨b0, b1, -⟩ := ha
  unfold pvH
  rw [pvS_eq (h := H 0) (g := H2 0) (fun q hq => (h.1 q hq).1) b0 (by omega) hn hs, h.2.1]
theorem pvK_eq (h : pcB H H2) (ha : pvArg Q a0 a1 a2 a3 a4 a5) (hn : (Q 0 1).toInt ≤ 6) (hs : (Q 0 0).toInt ≤ 16) : pvOk Q (H 0) a0 a2.toInt a3.toInt = pvOk Q (H2 0) a0 a2.toInt a3.toInt := by
  obtain ⟨b0, b1, -⟩ := ha
  exact pvOk_eq (fun q hq => (h.1 q hq).1) b0 (by omega) hs
theorem atR.eq (hn : (Q 0 1).toInt ≤ 6) (hs : (Q 0 0).toInt ≤ 16) (h : pcB H H2) (hk : pcK H H2) (g : atR Q C H H' a0 a1 a2 a3 a4 a5 r) (g2 : atR Q C H2 H2' a0 a1 a2 a3 a4 a5 r2) : r = r2 ∧ pcB H' H2' ∧ pcK H' H2' := by
  by_cases ha : pvArg Q a0 a1 a2 a3 a4 a5
  · unfold atR at g2
    rw [← pvH_eq h ha hn hs, ← pvK_eq h ha hn hs] at g2
    rcases g with ⟨x, -⟩ | ⟨-, x1, x2, x3, x4⟩ | ⟨-, x1, x2, x3, x4⟩
    · exact absurd ha x
    · rcases g2 with ⟨y, -⟩ | ⟨-, y1, y2, y3, y4⟩ | ⟨-, y1, -⟩
      · exact absurd ha y
      · exact ⟨by rw [x2, y2], h.go x3 y3, hk.go x4 y4⟩
      · exact absurd y1 x1
    · rcases g2 with ⟨y, -⟩ | ⟨-, y1, -⟩ | ⟨-, y1, y2, y3, y4⟩
      · exact absurd ha y
      · exact absurd x1 y1
      · exact ⟨by rw [x2, y2], h.go x3 y3, x4.eq y4⟩
  · rcases g with ⟨-, x2, x3, x4⟩ | ⟨x, -⟩ | ⟨x, -⟩
    · rcases g2 with ⟨-, y2, y3, y4⟩ | ⟨y, -⟩ | ⟨y, -⟩
      · exact ⟨by rw [x2, y2], h.go x3 y3, hk.go x4 y4⟩
      · exact absurd y ha
      · exact absurd y ha
    · exact absurd x ha
    · exact absurd x ha
theorem cuR.eq (hn : (Q 0 1).toInt ≤ 6) (hs : (Q 0 0).toInt ≤ 16) (h : pcB H H2) (hk : pcK H H2) (g : cuR Q C H H' a0 a1 a2 a3 a4 a5 r) (g2 : cuR Q C H2 H2' a0 a1 a2 a3 a4 a5 r2) : r = r2 ∧ pcB H' H2' ∧ pcK H' H2' := by
  by_cases ha : pvArg Q a0 a1 a2 a3 a4 a5
  · unfold cuR at g2
    rw [← pvH_eq h ha hn hs, ← pvK_eq h ha hn hs, ← h.2.2] at g2
    rcases g with ⟨x, -⟩ | ⟨-, x1, x2, x3, x4⟩ | ⟨-, x1, x5, x2, x3, x4⟩ | ⟨-, x1, x5, x2, x3, x4⟩
    · exact absurd ha x
    · rcases g2 with ⟨y, -⟩ | ⟨-, y1, y2, y3, y4⟩ | ⟨-, y1, -⟩ | ⟨-, y1, -⟩
      · exact absurd ha y
      · exact ⟨by rw [x2, y2], h.go x3 y3, hk.go x4 y4⟩
      · exact absurd y1 x1
      · exact absurd y1 x1
    · rcases g2 with ⟨y, -⟩ | ⟨-, y1, -⟩ | ⟨-, y1, y5, y2, y3, y4⟩ | ⟨-, y1, y5, y2, y3, y4⟩
      · exact absurd ha y
      · exact absurd x1 y1
      · exact ⟨by rw [x2, y2], h.go x3 y3, hk.go x4 y4⟩
      · omega
    · rcases g2 with ⟨y, -⟩ | ⟨-, y1, -⟩ | ⟨-, y1, y5, y2, y3, y4⟩ | ⟨-, y1, y5, y2, y3, y4⟩
      · exact absurd ha y
      · exact absurd x1 y1
      · omega
      · exact ⟨by rw [x2, y2], pcT.eq h x3 y3 ha.1, x4.eq y4⟩
  · rcases g with ⟨-, x2, x3, x4⟩ | ⟨x, -⟩ | ⟨x, -⟩ | ⟨x, -⟩
    · rcases g2 with ⟨-, y2, y3, y4⟩ | ⟨y, -⟩ | ⟨y, -⟩ | ⟨y, -⟩
      · exact ⟨by rw [x2, y2], h.go x3 y3, hk.go x4 y4⟩
      · exact absurd y ha
      · exact absurd y ha
      · exact absurd y ha
    · exact absurd x ha
    · exact absurd x ha
    · exact absurd x ha
end PCE
