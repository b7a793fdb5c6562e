/-! the reference's pieces and passes -/
theorem fresh_1 {f g : Nat → Int32} {v w : Int32} {x y : Int} (h0 : 0 ≤ x) (hy : y = x + 1) (h : ∀ q : Nat, (q : Int) < x → f q = v ∧ g q = w) : ∀ q : Nat, (q : Int) < y → upd f x.toNat v q = v ∧ upd g x.toNat w q = w := fun q h2 => by
  by_cases e : q = x.toNat
  · exact ⟨if_pos e, if_pos e⟩
  · rw [show upd f x.toNat v q = f q from if_neg e, show upd g x.toNat w q = g q from if_neg e]
    exact h q (by omega)
theorem pcU_upy {G : gS} {k k' p : Nat} {v : Int32} (h : k = p) (h' : k' = p) : pcU p v (yPc G) (yPc (gu_up (gu_up G 14 k v) 15 k' (-1))) := by
  subst h
  subst h'
  exact ⟨fun q e => ⟨show upd (G 14) k' v q = G 14 q from if_neg e, show upd (G 15) k' (-1) q = G 15 q from if_neg e⟩, show upd (G 14) k' v k' = v from if_pos rfl, show upd (G 15) k' (-1) k' = -1 from if_pos rfl, fun q => ⟨rfl, rfl, rfl⟩, rfl, rfl⟩
/-- a row is put into another from place b on -/
def sRow (h f : Nat → Int32) (b n : Int) : Nat → Int32 := fun q => if b ≤ (q : Int) ∧ (q : Int) < b + n then f ((q : Int) - b).toNat else h q
theorem sRow_0 {h f : Nat → Int32} {b n : Int} (hn : n = 0) : ∀ q : Nat, h q = sRow h f b n q := fun q => by
  unfold sRow
  rw [if_neg (by omega)]
theorem sRow_1 {h f f' : Nat → Int32} {b i y k : Int} {v : Int32} (g : ∀ q : Nat, f' q = sRow h f b i q) (h0 : 0 ≤ i) (hb : 0 ≤ b) (hk : k = b + i) (hv : v = f i.toNat) (hy : y = i + 1) : ∀ q : Nat, upd f' k.toNat v q = sRow h f b y q := fun q => by
  by_cases e : q = k.toNat
  · rw [show upd f' k.toNat v q = v from if_pos e, hv]
    unfold sRow
    rw [if_pos (by omega), show ((q : Int) - b).toNat = i.toNat by omega]
  · rw [show upd f' k.toNat v q = f' q from if_neg e, g q]
    unfold sRow
    by_cases c : b ≤ (q : Int) ∧ (q : Int) < b + i
    · rw [if_pos c, if_pos (by omega)]
    · rw [if_neg c, if_neg (by omega)]
theorem psHr_at {h : Nat → Int32} {r s i : Int} (h0 : 0 ≤ i) (h1 : i < s) : psHr h r s i.toNat = h (16 * r + i).toNat := by
  unfold psHr
  rw [if_pos (by omega), show ((i.toNat : Nat) : Int) = i by omega]
theorem psMx_at0 {h : Nat → Int32} {r s m : Int} (h1 : 0 < s) (hm : m = (h (16 * r + 0).toNat).toInt) : m = psMx (psHr h r s) (1 - 1 : Int).toNat := by
  rw [hm]
  show _ = (psHr h r s 0).toInt
  rw [show psHr h r s 0 = h (16 * r + 0).toNat from psHr_at (i := 0) (Int.le_refl 0) h1]
theorem psMn_at0 {h : Nat → Int32} {r m : Int} (hr : 0 ≤ r) (hm : m = (h (16 * r + 0).toNat).toInt) : m = psMn (fun q => h ((16 * r).toNat + q)) (1 - 1 : Int).toNat := by
  rw [hm]
  show _ = (h ((16 * r).toNat + 0)).toInt
  rw [show (16 * r + 0).toNat = (16 * r).toNat + 0 by omega]
/-- what is as it was when a pass was tried: the heights, the wear, who left them, what was put by below -/
def yNh (G G' : gS) : Prop := (∀ q : Nat, q < 96 → G' 14 q = G 14 q) ∧ G' 0 28 = G 0 28 ∧ (G' 15 = G 15 ∧ G' 16 = G 16 ∧ G' 17 = G 17 ∧ G' 18 = G 18) ∧ (∀ q : Nat, (q : Int) < 96 * (G 0 32).toInt → G' 19 q = G 19 q) ∧ (∀ q : Nat, (q : Int) < (G 0 32).toInt → G' 20 q = G 20 q) ∧ (G' 0 32).toInt = (G 0 32).toInt
theorem yNh.rf {G : gS} : yNh G G := ⟨fun _ _ => rfl, rfl, ⟨rfl, rfl, rfl, rfl⟩, fun _ _ => rfl, fun _ _ => rfl, rfl⟩
theorem yNh.tr {G G1 G2 : gS} (h : yNh G G1) (g : yNh G1 G2) : yNh G G2 := by
  obtain ⟨a1, a2, ⟨a3, a4, a5, a6⟩, a7, a8, a9⟩ := h
  obtain ⟨b1, b2, ⟨b3, b4, b5, b6⟩, b7, b8, b9⟩ := g
  rw [a9] at b7 b8
  exact ⟨fun q hq => (b1 q hq).trans (a1 q hq), b2.trans a2, ⟨b3.trans a3, b4.trans a4, b5.trans a5, b6.trans a6⟩, fun q hq => (b7 q hq).trans (a7 q hq), fun q hq => (b8 q hq).trans (a8 q hq), b9.trans a9⟩
def yNL : List Nat := [1400, 29, 1500, 1600, 1700, 1800, 1900, 2000, 33]
theorem yNh.un {G G1 : gS} {L : List Nat} (hU : gu_un ycd L G G1) (hL : gNo L yNL = false) : yNh G G1 := ⟨fun q _ => hU 14 q (gNo.at hL (n := 1400) (by decide)), hU 0 28 (gNo.at hL (n := 29) (by decide)), ⟨funext fun q => hU 15 q (gNo.at hL (n := 1500) (by decide)), funext fun q => hU 16 q (gNo.at hL (n := 1600) (by decide)), funext fun q => hU 17 q (gNo.at hL (n := 1700) (by decide)), funext fun q => hU 18 q (gNo.at hL (n := 1800) (by decide))⟩, fun q _ => hU 19 q (gNo.at hL (n := 1900) (by decide)), fun q _ => hU 20 q (gNo.at hL (n := 2000) (by decide)), congrArg Int32.toInt (hU 0 32 (gNo.at hL (n := 33) (by decide)))⟩
/-- the same behind what was put by: all but the heights and the wear; the level of what was put by is d -/
def yNd (d : Int) (G G' : gS) : Prop := (G' 15 = G 15 ∧ G' 16 = G 16 ∧ G' 17 = G 17 ∧ G' 18 = G 18) ∧ (∀ q : Nat, (q : Int) < 96 * d → G' 19 q = G 19 q) ∧ ∀ q : Nat, (q : Int) < d → G' 20 q = G 20 q
theorem yNd.rf {d : Int} {G : gS} : yNd d G G := ⟨⟨rfl, rfl, rfl, rfl⟩, fun _ _ => rfl, fun _ _ => rfl⟩
theorem yNd.tr {d d' : Int} {G G1 G2 : gS} (h : yNd d G G1) (g : yNd d' G1 G2) (hd : d ≤ d') : yNd d G G2 := by
  obtain ⟨⟨a3, a4, a5, a6⟩, a7, a8⟩ := h
  obtain ⟨⟨b3, b4, b5, b6⟩, b7, b8⟩ := g
  exact ⟨⟨b3.trans a3, b4.trans a4, b5.trans a5, b6.trans a6⟩, fun q hq => (b7 q (by omega)).trans (a7 q hq), fun q hq => (b8 q (by omega)).trans (a8 q hq)⟩
def yDL : List Nat := [1500, 1600, 1700, 1800, 1900, 2000]
theorem yNd.un {d : Int} {G G1 : gS} {L : List Nat} (hU : gu_un ycd L G G1) (hL : gNo L yDL = false) : yNd d G G1 := ⟨⟨funext fun q => hU 15 q (gNo.at hL (n := 1500) (by decide)), funext fun q => hU 16 q (gNo.at hL (n := 1600) (by decide)), funext fun q => hU 17 q (gNo.at hL (n := 1700) (by decide)), funext fun q => hU 18 q (gNo.at hL (n := 1800) (by decide))⟩, fun q _ => hU 19 q (gNo.at hL (n := 1900) (by decide)), fun q _ => hU 20 q (gNo.at hL (n := 2000) (by decide))⟩
theorem yNh.nd {G G1 : gS} (h : yNh G G1) : yNd (G 0 32).toInt G G1 := ⟨h.2.2.1, h.2.2.2.1, h.2.2.2.2.1⟩
theorem yNd.le {d d' : Int} {G G' : gS} (g : yNd d' G G') (hd : d ≤ d') : yNd d G G' := ⟨g.1, fun q hq => g.2.1 q (by omega), fun q hq => g.2.2 q (by omega)⟩
theorem yNd.go {d : Int} {G G1 : gS} {L : List Nat} (h : G1 15 = G 15 ∧ G1 16 = G 16 ∧ G1 17 = G 17 ∧ G1 18 = G 18) (hU : gu_un ycd L G G1) (hL : gNo L [1900, 2000] = false) : yNd d G G1 := ⟨h, fun q _ => hU 19 q (gNo.at hL (n := 1900) (by decide)), fun q _ => hU 20 q (gNo.at hL (n := 2000) (by decide))⟩
theorem yNd.pl {d : Int} {G G1 : gS} (h : (G1 15 = G 15 ∧ G1 16 = G 16 ∧ G1 17 = G 17 ∧ G1 18 = G 18) ∧ G1 19 = G 19 ∧ G1 20 = G 20) : yNd d G G1 := ⟨h.1, fun q _ => congrFun h.2.1 q, fun q _ => congrFun h.2.2 q⟩
theorem psMx_c {h : Nat → Int32} {r s c : Int} (e : ∀ q : Nat, q < 96 → (h q).toInt = c) (h0 : 0 ≤ r) (h1 : r ≤ 5) (hs : 1 ≤ s) (h16 : s ≤ 16) : psMx (psHr h r s) (s - 1).toNat = c := by
  have k : ∀ n : Nat, (n : Int) < s → psMx (psHr h r s) n = c := fun n => by
    induction n with
    | zero =>
      intro _
      show (psHr h r s 0).toInt = c
      unfold psHr
      rw [if_pos (by omega)]
      exact e _ (by omega)
    | succ n ih =>
      intro hn
      show max (psMx (psHr h r s) n) (psHr h r s (n + 1)).toInt = c
      have e2 : (psHr h r s (n + 1)).toInt = c := by
        unfold psHr
        rw [if_pos (by omega)]
        exact e _ (by omega)
      rw [ih (by omega), e2]
      omega
  exact k _ (by omega)
/-- what was put by is there -/
def yKe (G0 G : gS) (d : Int) : Prop := (∀ q : Nat, q < 96 → G 19 (96 * d + (q : Int)).toNat = G0 14 q) ∧ G 20 d.toNat = G0 0 28
theorem yKe.nd {G0 G G' : gS} {d d' : Int} (h : yKe G0 G d) (g : yNd d' G G') (h0 : 0 ≤ d) (hd : d < d') : yKe G0 G' d := ⟨fun q hq => (g.2.1 _ (by omega)).trans (h.1 q hq), (g.2.2 _ (by omega)).trans h.2⟩
theorem yKe.by {G G' : gS} {d : Int} (h : ∀ q : Nat, G' 19 q = sRow (G 19) (G 14) (96 * d) 96 q) (g : G' 20 = upd (G 20) d.toNat (G 0 28)) (h0 : 0 ≤ d) : yKe G G' d := by
  refine ⟨fun q hq => ?_, ?_⟩
  · rw [h]
    unfold sRow
    rw [if_pos (by omega), show (((96 * d + (q : Int)).toNat : Int) - 96 * d).toNat = q by omega]
  · rw [g]
    exact if_pos rfl
theorem yNd.by {G G' : gS} {d : Int} (h : ∀ q : Nat, G' 19 q = sRow (G 19) (G 14) (96 * d) 96 q) (g : G' 20 = upd (G 20) d.toNat (G 0 28)) (l : G' 15 = G 15 ∧ G' 16 = G 16 ∧ G' 17 = G 17 ∧ G' 18 = G 18) (h0 : 0 ≤ d) : yNd d G G' := by
  refine ⟨l, fun q hq => ?_, fun q hq => ?_⟩
  · rw [h]
    unfold sRow
    rw [if_neg (by omega)]
  · rw [g]
    exact if_neg (by omega)
/-- put back -/
theorem yNh.back {G0 G G' : gS} {d : Int} (n : yNd d G0 G) (k : yKe G0 G d) (hd : d = (G0 0 32).toInt) (h : ∀ q : Nat, q < 96 → G' 14 q = G 19 (96 * d + (q : Int)).toNat) (hw : G' 0 28 = G 20 d.toNat) (l : yNd d G G') (h32 : (G' 0 32).toInt = d) : yNh G0 G' := by
  have m := yNd.tr n l (Int.le_refl d)
  rw [hd] at m
  exact ⟨fun q hq => (h q hq).trans (k.1 q hq), hw.trans k.2, m.1, m.2.1, m.2.2, by rw [h32, hd]⟩
theorem mLun {w : Int} {G G' : gS} {L : List Nat} (hU : gu_un ycd L G G') (hL : gNo L [1000, 1100, 1200] = false) : mL w G' = mL w G := by
  unfold mL
  rw [show G' 10 = G 10 from funext fun k => hU 10 k (gNo.at hL (n := 1000) (by decide)), show G' 11 = G 11 from funext fun k => hU 11 k (gNo.at hL (n := 1100) (by decide)), show G' 12 = G 12 from funext fun k => hU 12 k (gNo.at hL (n := 1200) (by decide))]
theorem ti_oi {a : Int} (h1 : -2147483648 ≤ a) (h2 : a ≤ 2147483647) : (Int32.ofInt a).toInt = a := by
  rw [Int32.toInt_ofInt]
  exact ti_bm h1 h2
theorem pyMx {h : Nat → Int32} {r s : Int} (hs : 1 ≤ s) : psMx (psHr h r s) (s - 1).toNat = psMx (yHr h r) (s - 1).toNat := psMx_eq (fun i hi => by
  unfold psHr yHr
  rw [if_pos (by omega)])
theorem pyMn {h : Nat → Int32} {r : Int} {n : Nat} (hr : 0 ≤ r) : psMn (fun q => h ((16 * r).toNat + q)) n = psMn (yHr h r) n := psMn_eq (fun i hi => by
  unfold yHr
  rw [show (16 * r + (i : Int)).toNat = (16 * r).toNat + i by omega])
/-! a pass of the reference beside psR -/
def yRl (G : gS) (r : Int) (ps lv fe ga sp st da : Int32) (E : gS) (n : Nat) (sh : Int) : Prop := ∀ (Q : gS) (C : Nat → List Int), yRq G Q C lv fe ga sp st da → (∃ f9 : Int32, pR (G 3 0).toInt (psR Q C n (psZ (psHr (G 14) r (G 3 0).toInt) (G 0 28))) (yHr (E 14) r) (E 0 28) (E 0 35) (E 0 36) (E 21 2) (E 21 3) (E 21 1) f9) ∧ (psR Q C n (psZ (psHr (G 14) r (G 3 0).toInt) (G 0 28)) 4 7).toInt = sh ∧ (ps.toInt ≠ -1 → yLf r (G 3 0).toInt (psR Q C n (psZ (psHr (G 14) r (G 3 0).toInt) (G 0 28))) ps (G 15) (G 16) (G 17) (G 18) (E 15) (E 16) (E 17) (E 18)) ∧ (n ≠ 0 → psR Q C n (psZ (psHr (G 14) r (G 3 0).toInt) (G 0 28)) 4 8 = E 21 6)
section YR
variable {G E E1 E2 Q : gS} {C : Nat → List Int} {ps lv fe ga sp st da t fo ho : Int32} {n : Nat} {r T i s : Int}
theorem yRl.at0 (h14 : E 14 = G 14) (h28 : E 0 28 = G 0 28) (hz : E 0 35 = 0 ∧ E 0 36 = 0 ∧ E 21 1 = 0 ∧ E 21 2 = 0 ∧ E 21 3 = 0) (hl : E 15 = G 15 ∧ E 16 = G 16 ∧ E 17 = G 17 ∧ E 18 = G 18) : yRl G r ps lv fe ga sp st da E 0 0 := fun Q C _ => by
  obtain ⟨z1, z2, z3, z4, z5⟩ := hz
  obtain ⟨l1, l2, l3, l4⟩ := hl
  refine ⟨⟨0, fun q hq => ?_, h28.symm, z1.symm, z2.symm, z4.symm, z5.symm, z3.symm, rfl⟩, rfl, fun _ q _ => ⟨fun _ => ⟨by rw [l1], by rw [l2], by rw [l3], by rw [l4]⟩, fun h9 => absurd rfl h9⟩, fun h9 => absurd rfl h9⟩
  show (if (q : Int) < (G 3 0).toInt then G 14 (16 * r + (q : Int)).toNat else 0) = E 14 (16 * r + (q : Int)).toNat
  rw [if_pos hq, h14]
theorem yRl.go (h : yRl G r ps lv fe ga sp st da E n 0) (hn : (n : Int) = T * s + i) (hs : (G 3 0).toInt = s) (h0 : 0 ≤ i) (his : i < s) (ht : t.toInt = T) (hbg : E2 21 6 = t + 1)
  (bt : ∀ (Q S : gS) (C : Nat → List Int), yBq G Q C t (lv - (fe * (t + 1))) → pR s S (yHr (E 14) r) (E 0 28) (E 0 35) (E 0 36) (E 21 2) (E 21 3) (E 21 1) 0 → pR s (psT Q C i t (G 3 10).toInt.toNat S) (yHr (E2 14) r) (E2 0 28) (E 0 35) (E 0 36) (E2 21 2) (E 21 3) (E 21 1) fo ∧ (ps.toInt ≠ -1 → yLf r s S ps (G 15) (G 16) (G 17) (G 18) (E 15) (E 16) (E 17) (E 18) → yLf r s (psT Q C i t (G 3 10).toInt.toNat S) ps (G 15) (G 16) (G 17) (G 18) (E2 15) (E2 16) (E2 17) (E2 18)))
  (hho : gcOK (mL 1 G) → ho = st + psC 0 999 (eV (E2 14 (16 * r + i).toNat) ga (mL 1 G))) (h11 : 1 ≤ (G 3 11).toInt) {k : Nat} (hk : (sp + G 7 ((n : Int) % (G 3 11).toInt).toNat).toInt.toNat = k) {sh : Int32}
  (sw : ∀ Q S : gS, (Q 0 2 = G 3 2 ∧ Q 0 7 = G 3 7 ∧ Q 3 5 = da) → swR S (E 0 35) (E 0 36) (E 21 3) (E 21 1) 0 → swR (psJ Q fo ho k S) (E2 0 35) (E2 0 36) (E2 21 3) (E2 21 1) sh)
  {y : Nat} (hy : y = n + 1) {shi : Int} (hsh : sh.toInt = shi) : yRl G r ps lv fe ga sp st da E2 y shi := fun Q C hq => by
  obtain ⟨⟨f9, h1⟩, h3, h4, h5⟩ := h Q C hq
  obtain ⟨q1, q2, q3, q4, q5, q6, q7, q8, q9, q10, q11, q12, q13, c0, c1, c2, g0, g1, g2⟩ := hq
  rw [hs] at h1 h3 h4 h5 ⊢
  have h7 : psR Q C n (psZ (psHr (G 14) r s) (G 0 28)) 4 7 = 0 := Int32.toInt_inj.mp h3
  have hb : yBq G Q C t (lv - (fe * (t + 1))) := ⟨q1, q6, by unfold psF; rw [q7, q8], c0, c2, g0, g2⟩
  obtain ⟨b1, b2⟩ := bt Q (psG t (psR Q C n (psZ (psHr (G 14) r s) (G 0 28)))) C hb (pR.G h1)
  have hs0 : (Q 0 0).toInt = s := by rw [q1, hs]
  have hI := psI_of (Q := Q) hn h0 his hs0
  have hU := psU_of (Q := Q) hn h0 his hs0 ht
  have w := sw Q _ ⟨q2, q3, q12⟩ (pR.sw b1 h7)
  have hm : (Q 3 6).toInt.toNat = (G 3 10).toInt.toNat := by rw [q13]
  have eK := psK_of (C := C) (S := psR Q C n (psZ (psHr (G 14) r s) (G 0 28))) hI hU hm
  have hr0 : 0 ≤ (n : Int) % (G 3 11).toInt ∧ (n : Int) % (G 3 11).toInt < (G 3 11).toInt := ⟨Int.emod_nonneg _ (by omega), Int.emod_lt_of_pos _ (by omega)⟩
  have e : psR Q C y (psZ (psHr (G 14) r s) (G 0 28)) = psJ Q fo ho k (psT Q C i t (G 3 10).toInt.toNat (psG t (psR Q C n (psZ (psHr (G 14) r s) (G 0 28))))) := by
    have e1 := psR_1 (y := (n : Int) + 1) h7 rfl
    rw [show ((n : Int) + 1).toNat = n + 1 by omega] at e1
    rw [hy, e1]
    unfold psN
    rw [eK, hI, q10, q4, q5 _ (by omega), hk, b1.2.2.2.2.2.2.2, b1.1 i.toNat (by omega), q11, q9, c1]
    rw [show yHr (E2 14) r i.toNat = E2 14 (16 * r + i).toNat by unfold yHr; rw [show ((i.toNat : Nat) : Int) = i by omega], ← hho (by rw [← c1]; exact g1)]
  rw [e]
  obtain ⟨k1, k2, k3, k4⟩ := psJ_k (Q := Q) (S := psT Q C i t (G 3 10).toInt.toNat (psG t (psR Q C n (psZ (psHr (G 14) r s) (G 0 28))))) (fo := fo) (ho := ho) (n := k)
  obtain ⟨w1, w2, w3, w4, w5⟩ := w
  refine ⟨⟨_, fun j hj => ?_, ?_, w1, w2, ?_, w3, w4, rfl⟩, ?_, fun hp => ?_, fun _ => ?_⟩
  · rw [k1 0 (by decide)]; exact b1.1 j hj
  · rw [k2]; exact b1.2.1
  · rw [k3]; exact b1.2.2.2.2.1
  · rw [w5]; exact hsh
  · have b3 := b2 hp (h4 hp)
    intro j hj
    have b4 := b3 j hj
    rw [← k1 1 (by decide), ← k1 2 (by decide), ← k1 3 (by decide)] at b4
    exact b4
  · rw [k4, psT_7.2, hbg]; rfl
theorem yRl.sh {sh sh' : Int} (h : yRl G r ps lv fe ga sp st da E n sh) (e : sh' = sh) : yRl G r ps lv fe ga sp st da E n sh' := by
  rw [e]
  exact h
theorem yRl.to (h : yRl G r ps lv fe ga sp st da E n i) (h14 : E2 14 = E 14) (h28 : E2 0 28 = E 0 28) (hx : E2 0 35 = E 0 35 ∧ E2 0 36 = E 0 36) (h21 : E2 21 1 = E 21 1 ∧ E2 21 2 = E 21 2 ∧ E2 21 3 = E 21 3 ∧ E2 21 6 = E 21 6) (hl : E2 15 = E 15 ∧ E2 16 = E 16 ∧ E2 17 = E 17 ∧ E2 18 = E 18) : yRl G r ps lv fe ga sp st da E2 n i := by
  unfold yRl at *
  rw [h14, h28, hx.1, hx.2, h21.1, h21.2.1, h21.2.2.1, h21.2.2.2, hl.1, hl.2.1, hl.2.2.1, hl.2.2.2]
  exact h
/-- at the end: all sectors, or shaken -/
theorem yRl.fin {sh : Int} {m : Nat} (h : yRl G r ps lv fe ga sp st da E n sh) (hn : n ≤ m) (hd : sh ≠ 0 ∨ n = m) : yRl G r ps lv fe ga sp st da E m sh := by
  rcases hd with g | g
  · intro Q C hq
    have e : psR Q C n (psZ (psHr (G 14) r (G 3 0).toInt) (G 0 28)) 4 7 ≠ 0 := fun e0 => g (by rw [← (h Q C hq).2.1, e0]; rfl)
    have hz : n ≠ 0 := fun e0 => e (by rw [e0]; rfl)
    rw [psR_stop (m := m) hn e]
    obtain ⟨a1, a2, a3, a4⟩ := h Q C hq
    exact ⟨a1, a2, a3, fun _ => a4 hz⟩
  · rw [← g]
    exact h
end YR
/-- what a pass of the reference tells -/
def yOut (G : gS) (r : Int) (ps fe sp tu st da : Int32) (E : gS) (v : Int) : Prop := ∃ lv ga : Int32, lv.toInt = psMx (psHr (G 14) r (G 3 0).toInt) ((G 3 0).toInt - 1).toNat ∧ (r < (G 3 1).toInt → ga.toInt = psGa (G 14) r (G 3 1).toInt (G 3 0).toInt lv.toInt) ∧ yRl G r ps lv fe ga sp st da E ((G 3 0).toInt * tu.toInt).toNat (if v = 2 then 1 else 0) ∧ (E 21 0).toInt = psMx (yHr (E 14) r) ((G 3 0).toInt - 1).toNat - psMn (yHr (E 14) r) ((G 3 0).toInt - 1).toNat ∧ (v = 2 ∨ (v = 1 ∧ (G 3 8).toInt < (E 21 0).toInt) ∨ (v = 0 ∧ (E 21 0).toInt ≤ (G 3 8).toInt)) ∧ E 21 4 = E 0 35 ∧ E 21 5 = E 0 28
/-- outside the ring nothing is another -/
def yOt (r s : Int) (G G' : gS) : Prop := ∀ q : Nat, ((q : Int) < 16 * r ∨ 16 * r + s ≤ (q : Int)) → G' 14 q = G 14 q ∧ G' 15 q = G 15 q ∧ G' 16 q = G 16 q ∧ G' 17 q = G 17 q ∧ G' 18 q = G 18 q
theorem yOt.rf {r s : Int} {G : gS} : yOt r s G G := fun _ _ => ⟨rfl, rfl, rfl, rfl, rfl⟩
theorem yOt.tr {r s : Int} {G G1 G2 : gS} (h : yOt r s G G1) (g : yOt r s G1 G2) : yOt r s G G2 := fun q hq => by
  obtain ⟨a1, a2, a3, a4, a5⟩ := h q hq
  obtain ⟨b1, b2, b3, b4, b5⟩ := g q hq
  exact ⟨b1.trans a1, b2.trans a2, b3.trans a3, b4.trans a4, b5.trans a5⟩
theorem yOt.un {r s : Int} {G G1 : gS} {L : List Nat} (hU : gu_un ycd L G G1) (hL : gNo L [1400, 1500, 1600, 1700, 1800] = false) : yOt r s G G1 := fun q _ => ⟨hU 14 q (gNo.at hL (n := 1400) (by decide)), hU 15 q (gNo.at hL (n := 1500) (by decide)), hU 16 q (gNo.at hL (n := 1600) (by decide)), hU 17 q (gNo.at hL (n := 1700) (by decide)), hU 18 q (gNo.at hL (n := 1800) (by decide))⟩
theorem yOt.bite {r s p : Int} {pl : Int} {G G1 G2 : gS} {v a b c d : Int32} (h : yOt r s G G1) (hp : p = 16 * r + pl) (h0 : 0 ≤ pl) (h1 : pl < s) (hr : 0 ≤ r) (e1 : G2 14 = upd (G1 14) p.toNat v) (e2 : G2 15 = G1 15 ∨ G2 15 = upd (G1 15) p.toNat a) (e3 : G2 16 = G1 16 ∨ G2 16 = upd (G1 16) p.toNat b) (e4 : G2 17 = G1 17 ∨ G2 17 = upd (G1 17) p.toNat c) (e5 : G2 18 = G1 18 ∨ G2 18 = upd (G1 18) p.toNat d) : yOt r s G G2 := fun q hq => by
  obtain ⟨a1, a2, a3, a4, a5⟩ := h q hq
  have u : ∀ (f : Nat → Int32) (w : Int32), upd f p.toNat w q = f q := fun f w => if_neg (by omega)
  have o : ∀ {f g : Nat → Int32} {w : Int32}, (g = f ∨ g = upd f p.toNat w) → g q = f q := fun hh => by
    rcases hh with hh | hh
    · rw [hh]
    · rw [hh, u]
  exact ⟨(o (Or.inr e1)).trans a1, (o e2).trans a2, (o e3).trans a3, (o e4).trans a4, (o e5).trans a5⟩
theorem yOut.pv {G E Q : gS} {C : Nat → List Int} {ps a1 a2 a3 st da : Int32} {a0 v : Int} (h : yOut G a0 ps a2 a1 a3 st da E v) (hq : ySq G Q C) (hr : a0 < (G 3 1).toInt) (ht : 1 ≤ a3.toInt) (hs : 1 ≤ (G 3 0).toInt) : v = pvV Q (pvS Q C (G 14) (G 0 28) a0 a1 a2 a3 st da) ∧ (∀ i : Nat, (i : Int) < (Q 0 0).toInt → pvS Q C (G 14) (G 0 28) a0 a1 a2 a3 st da 0 i = yHr (E 14) a0 i) ∧ (ps.toInt ≠ -1 → yLf a0 (Q 0 0).toInt (pvS Q C (G 14) (G 0 28) a0 a1 a2 a3 st da) ps (G 15) (G 16) (G 17) (G 18) (E 15) (E 16) (E 17) (E 18)) ∧ pvN Q (pvS Q C (G 14) (G 0 28) a0 a1 a2 a3 st da) (E 21 0) (E 21 1) (E 21 2) (E 21 3) (E 21 4) (E 21 5) (E 21 6) ∧ pvS Q C (G 14) (G 0 28) a0 a1 a2 a3 st da 4 0 = E 0 28 := by
  obtain ⟨lv, ga, h1, h2, hR, hw, hv, hx, hwe⟩ := h
  obtain ⟨q1, q2, q3, q4, c0, c1, c2, g0, g1, g2⟩ := hq
  have h2 := h2 hr
  have e0 : Q 0 0 = G 3 0 := q1 0 (by decide) (by decide)
  have e1 : Q 0 1 = G 3 1 := q1 1 (by decide) (by decide)
  have e8 : Q 0 8 = G 3 8 := q1 8 (by decide) (by decide)
  have eL : pvL (G 14) a0 (Q 0 0).toInt = lv := by
    unfold pvL
    rw [e0, ← h1, Int32.ofInt_toInt]
  have eG : pvG (G 14) a0 (Q 0 1).toInt (Q 0 0).toInt = ga := by
    unfold pvG
    rw [eL, e0, e1, ← h2, Int32.ofInt_toInt]
  have hy : yRq G (pvQ Q (G 14) a0 a1 a2 st da) C lv a2 ga a1 st da := ⟨e0, q1 2 (by decide) (by decide), q1 7 (by decide) (by decide), q1 11 (by decide) (by decide), q2, q3, eL, rfl, eG, rfl, rfl, rfl, Int32.toInt_inj.mp q4, c0, c1, c2, g0, g1, g2⟩
  have eS : pvS Q C (G 14) (G 0 28) a0 a1 a2 a3 st da = psR (pvQ Q (G 14) a0 a1 a2 st da) C ((G 3 0).toInt * a3.toInt).toNat (psZ (psHr (G 14) a0 (G 3 0).toInt) (G 0 28)) := by
    unfold pvS
    rw [e0, Int.mul_comm]
  have hn : ((G 3 0).toInt * a3.toInt).toNat ≠ 0 := by
    have h9 : 1 * 1 ≤ (G 3 0).toInt * a3.toInt := Int.mul_le_mul hs ht (by decide) (by omega)
    omega
  obtain ⟨⟨f9, p1, p2, p3, p4, p5, p6, p7, p8⟩, s1, l1, b1⟩ := hR _ C hy
  have b1 := b1 hn
  rw [eS]
  generalize psR (pvQ Q (G 14) a0 a1 a2 st da) C ((G 3 0).toInt * a3.toInt).toNat (psZ (psHr (G 14) a0 (G 3 0).toInt) (G 0 28)) = S at *
  have eW : pvW Q S = (E 21 0).toInt := by
    rw [pvW_eq (by rw [e0]; exact hs) (by rw [e0]; exact p1), e0, hw]
  refine ⟨?_, by rw [e0]; exact p1, by rw [e0]; exact l1, ⟨eW.symm, p7, p5, p6, by rw [hx]; exact p3, by rw [hwe]; exact p2, b1⟩, p2⟩
  unfold pvV
  rw [eW, e8]
  rcases hv with h9 | ⟨h9, h8⟩ | ⟨h9, h8⟩
  · rw [if_neg (fun h7 => by rw [h9, if_pos rfl, h7] at s1; exact absurd s1 (by decide))]
    exact h9
  · rw [if_pos (Int32.toInt_inj.mp (by rw [s1, h9]; rfl)), if_pos h8]
    exact h9
  · rw [if_pos (Int32.toInt_inj.mp (by rw [s1, h9]; rfl)), if_neg (by omega)]
    exact h9
/-- a pass that the reference cuts -/
theorem cu_y {Q S G E G' : gS} {L : List Nat} {a0 : Int} {ps : Int32} (h0 : ∀ i : Nat, (i : Int) < (Q 0 0).toInt → S 0 i = yHr (E 14) a0 i) (hl : yLf a0 (Q 0 0).toInt S ps (G 15) (G 16) (G 17) (G 18) (E 15) (E 16) (E 17) (E 18)) (hw : S 4 0 = E 0 28) (ho : yOt a0 (Q 0 0).toInt G E) (hps : ps = G 0 29) (hU : gu_un ycd L E G') (hL : gNo L [1400, 1500, 1600, 1700, 1800, 29] = false) (hc : G' 0 29 = G 0 29 + 1) : pcT (Q 0 0).toInt a0 (S 0) (S 1) (S 2) (S 3) (S 4 0) (yPc G) (yPc G') := by
  have a : ∀ k, G' 14 k = E 14 k := fun k => hU 14 k (gNo.at hL (n := 1400) (by decide))
  have b : ∀ k, G' 15 k = E 15 k := fun k => hU 15 k (gNo.at hL (n := 1500) (by decide))
  have c : ∀ k, G' 16 k = E 16 k := fun k => hU 16 k (gNo.at hL (n := 1600) (by decide))
  have d : ∀ k, G' 17 k = E 17 k := fun k => hU 17 k (gNo.at hL (n := 1700) (by decide))
  have e : ∀ k, G' 18 k = E 18 k := fun k => hU 18 k (gNo.at hL (n := 1800) (by decide))
  refine ⟨fun q hq => ?_, fun i hi => ?_, (hU 0 28 (gNo.at hL (n := 29) (by decide))).trans hw.symm, hc⟩
  · obtain ⟨o1, o2, o3, o4, o5⟩ := ho q hq
    exact ⟨(a q).trans o1, (b q).trans o2, (c q).trans o3, (d q).trans o4, congrArg (· + 20000) ((e q).trans o5)⟩
  · obtain ⟨g1, g2⟩ := hl i hi
    refine ⟨(a _).trans (h0 i hi).symm, fun h => ?_, fun h => ?_⟩
    · obtain ⟨x1, x2, x3, x4⟩ := g1 h
      exact ⟨(b _).trans x1, (c _).trans x2, (d _).trans x3, congrArg (· + 20000) ((e _).trans x4)⟩
    · obtain ⟨x1, x2, x3, x4⟩ := g2 h
      exact ⟨((b _).trans x1).trans hps, (c _).trans x2, (d _).trans x3, congrArg (· + 20000) ((e _).trans x4)⟩
/-- tried: what is as it was -/
theorem pcB.nh {G G' : gS} (h : yNh G G') (hc : G' 0 29 = G 0 29) : pcB (yPc G) (yPc G') := by
  obtain ⟨a1, a2, ⟨a3, a4, a5, a6⟩, -⟩ := h
  exact ⟨fun q hq => ⟨(a1 q hq).symm, congrFun a3.symm q, fun _ => ⟨congrFun a4.symm q, congrFun a5.symm q, congrArg (· + 20000) (congrFun a6.symm q)⟩⟩, a2.symm, hc.symm⟩
theorem pcF.xun {v : Int32} {G1 G2 : gS} {L : List Nat} (h : pcF v (xPc G1)) (hU : gu_un xcd L G1 G2) (hL : gNo L xBL = false) : pcF v (xPc G2) := by
  have g := pcB.xun hU hL
  exact ⟨fun q hq => ⟨(g.1 q hq).1.symm.trans (h.1 q hq).1, (g.1 q hq).2.1.symm.trans (h.1 q hq).2⟩, g.2.1.symm.trans h.2.1, g.2.2.symm.trans h.2.2⟩
theorem pcF.yun {v : Int32} {G1 G2 : gS} {L : List Nat} (h : pcF v (yPc G1)) (hU : gu_un ycd L G1 G2) (hL : gNo L yBL = false) : pcF v (yPc G2) := by
  have g := pcB.yun hU hL
  exact ⟨fun q hq => ⟨(g.1 q hq).1.symm.trans (h.1 q hq).1, (g.1 q hq).2.1.symm.trans (h.1 q hq).2⟩, g.2.1.symm.trans h.2.1, g.2.2.symm.trans h.2.2⟩
