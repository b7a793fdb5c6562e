/-! the reference's parser over the list of tokens -/
theorem yMk.ml {k v : Int32} {w : Int} {G G' : gS} (h : yMk k v w G G') (hw : 0 ≤ w) (h0 : 0 ≤ (G 12 w.toNat).toInt) : mL w G' = mEn k.toInt v.toInt :: mL w G := by
  obtain ⟨a1, a2, a3, a4, a5, a6⟩ := h
  unfold mL
  rw [a1, show ((G 12 w.toNat).toInt + 1).toNat = (G 12 w.toNat).toInt.toNat + 1 by omega]
  show mEn (G' 10 ((80 * w).toNat + (G 12 w.toNat).toInt.toNat)).toInt (G' 11 ((80 * w).toNat + (G 12 w.toNat).toInt.toNat)).toInt :: mkr (G' 10) (G' 11) (80 * w).toNat (G 12 w.toNat).toInt.toNat = _
  rw [show (80 * w).toNat + (G 12 w.toNat).toInt.toNat = (80 * w + (G 12 w.toNat).toInt).toNat by omega, a4, a5, mkr_ext (kd := G 10) (vl := G 11) (fun i i1 i2 => a3 i (by omega))]
theorem mL_un {w : Int} {G G' : gS} {L : List Nat} (hU : gu_un ycd L G G') (hL : (L.contains 1000 || L.contains 1100 || L.contains 1200) = false) : mL w G' = mL w G := by
  obtain ⟨e1, e2, e3⟩ := y_un hU hL
  unfold mL
  rw [e1, e2, e3]
/-- the tokens from the one at hand on -/
def yTs (G : gS) (ts : List hTk) : Prop := ∃ p : Int, 0 ≤ p ∧ p ≤ (G 0 3).toInt ∧ tTok (G 2) (G 0 3).toInt p (G 0 6).toInt (G 0 4).toInt (G 0 7).toInt (G 0 5).toInt ∧ tL (G 2) (G 0 3).toInt p ts
def yTC : List Nat := [4, 5, 6, 7, 8, 200]
def yNo (L C : List Nat) : Bool := C.any (fun n => L.contains n)
theorem yTs.un {G G' : gS} {ts : List hTk} {L : List Nat} (h : yTs G ts) (hU : gu_un ycd L G G') (hL : yNo L yTC = false) : yTs G' ts := by
  have hm : ∀ n : Nat, L.contains n = false → n ∉ L := by
    intro n h1 h2
    rw [List.contains_iff_mem.mpr h2] at h1
    cases h1
  have hL' : (L.contains 4 || (L.contains 5 || (L.contains 6 || (L.contains 7 || (L.contains 8 || L.contains 200))))) = false := by
    simpa [yNo, yTC] using hL
  simp only [Bool.or_eq_false_iff] at hL'
  obtain ⟨r1, r2, r3, r4, r5, r6⟩ := hL'
  unfold yTs at *
  rw [hU 0 3 (hm 4 r1), hU 0 4 (hm 5 r2), hU 0 5 (hm 6 r3), hU 0 6 (hm 7 r4), hU 0 7 (hm 8 r5), show G' 2 = G 2 from funext fun k => hU 2 k (hm 200 r6)]
  exact h
theorem yTq {G G' : gS} {L : List Nat} (hU : gu_un ycd L G G') (hL : yNo L yTC = false) : G' 0 3 = G 0 3 ∧ G' 0 4 = G 0 4 ∧ G' 0 5 = G 0 5 ∧ G' 0 6 = G 0 6 ∧ G' 0 7 = G 0 7 ∧ G' 2 = G 2 := by
  have hm : ∀ n : Nat, L.contains n = false → n ∉ L := by
    intro n h1 h2
    rw [List.contains_iff_mem.mpr h2] at h1
    cases h1
  have hL' : (L.contains 4 || (L.contains 5 || (L.contains 6 || (L.contains 7 || (L.contains 8 || L.contains 200))))) = false := by
    simpa [yNo, yTC] using hL
  simp only [Bool.or_eq_false_iff] at hL'
  obtain ⟨r1, r2, r3, r4, r5, r6⟩ := hL'
  exact ⟨hU 0 3 (hm 4 r1), hU 0 4 (hm 5 r2), hU 0 5 (hm 6 r3), hU 0 6 (hm 7 r4), hU 0 7 (hm 8 r5), funext fun k => hU 2 k (hm 200 r6)⟩
/-- what is told of the value of the token at hand -/
def yV (G : gS) (v : Int) : Prop := ((G 0 6).toInt = 2 ∨ (G 0 6).toInt = 3 → v = (G 0 7).toInt) ∧ ((G 0 6).toInt = 1 → ((G 0 5).toInt - (G 0 4).toInt = 1 ∧ v = yBi (G 2) (G 0 3).toInt (G 0 4).toInt) ∨ ((G 0 5).toInt - (G 0 4).toInt ≠ 1 ∧ v = 0))
theorem yTs.hd {G : gS} {ts : List hTk} (h : yTs G ts) : ∃ (v : Int) (r : List hTk), ts = ((G 0 6).toInt, (G 0 4).toInt, v, yCi G) :: r ∧ yV G v := by
  obtain ⟨p, h0, h1, h2, h3⟩ := h
  obtain ⟨v, r, e1, e2, e3, e4, e5, e6⟩ := h3.at h2 h1
  exact ⟨v, r, e1, e2, e3⟩
/-- the next token -/
theorem yTs.scan {G G1 G0 : gS} {ts : List hTk} {L : List Nat} (h : yTs G0 ts) (hU : gu_un ycd L G0 G) (hL : yNo L yTC = false) (hk : (G0 0 6).toInt ≠ 0) (ht : tTok (G 2) (G 0 3).toInt (G 0 5).toInt (G1 0 6).toInt (G1 0 4).toInt (G1 0 7).toInt (G1 0 5).toInt) (e2 : G1 2 = G 2) (e3 : G1 0 3 = G 0 3) : ∃ (v : Int) (r : List hTk), ts = ((G0 0 6).toInt, (G0 0 4).toInt, v, yCi G0) :: r ∧ yV G0 v ∧ yTs G1 r := by
  obtain ⟨p, h0, h1, h2, h3⟩ := h
  obtain ⟨q3, q4, q5, q6, q7, q2⟩ := yTq hU hL
  obtain ⟨v, r, e1, g2, g3, e4, e5, e6⟩ := h3.at h2 h1
  have hl := h2.lt h1
  have a1 := h2.1.1.1
  refine ⟨v, r, e1, ⟨g2, g3⟩, (G 0 5).toInt, by rw [q5]; omega, by rw [e3, q3, q5]; omega, ?_, ?_⟩
  · rw [e2, e3]; exact ht
  · rw [e2, e3, q2, q3, q5]; exact e6 hk
/-- the automaton of the sum i goes from one state to another while the reference goes from G to G' -/
def ySim (C : List Int → Prop) (i : Nat) (s0 s1 : List Int → Int → sSt) (G G' : gS) : Prop := ∀ ts : List hTk, yTs G ts → ∃ ts' : List hTk, yTs G' ts' ∧ ∀ (cnt lat cl : Int) (td : Nat → Int) (nu : Nat → Int32) (sg : Nat → sSt) (w : List Int) (p : Int), C w → 0 ≤ p → hF ts i cnt lat cl td nu sg (s0 w p) = hF ts' i cnt lat cl td nu sg (s1 w p)
/-- the automaton ends with the fault that the reference throws -/
def yThr (C : List Int → Prop) (i : Nat) (s0 : List Int → Int → sSt) (G G' : gS) : Prop := ∀ ts : List hTk, yTs G ts → ∀ (cnt lat cl : Int) (td : Nat → Int) (nu : Nat → Int32) (sg : Nat → sSt) (w : List Int) (p : Int), C w → 0 ≤ p → hF ts i cnt lat cl td nu sg (s0 w p) = hBad (G' 0 8).toInt (G' 0 9).toInt
section YS
variable {C C' : List Int → Prop} {i : Nat} {s0 s1 s2 : List Int → Int → sSt} {G G1 G2 : gS} {L : List Nat}
theorem ySim.rf : ySim C i s0 s0 G G := fun ts h => ⟨ts, h, fun _ _ _ _ _ _ _ _ _ _ => rfl⟩
theorem ySim.tr (h : ySim C i s0 s1 G G1) (g : ySim C i s1 s2 G1 G2) : ySim C i s0 s2 G G2 := fun ts ht => by
  obtain ⟨t1, a1, a2⟩ := h ts ht
  obtain ⟨t2, b1, b2⟩ := g t1 a1
  exact ⟨t2, b1, fun cnt lat cl td nu sg w p hc hp => (a2 cnt lat cl td nu sg w p hc hp).trans (b2 cnt lat cl td nu sg w p hc hp)⟩
theorem ySim.thr (h : ySim C i s0 s1 G G1) (g : yThr C i s1 G1 G2) : yThr C i s0 G G2 := fun ts ht cnt lat cl td nu sg w p hc hp => by
  obtain ⟨t1, a1, a2⟩ := h ts ht
  exact (a2 cnt lat cl td nu sg w p hc hp).trans (g t1 a1 cnt lat cl td nu sg w p hc hp)
theorem ySim.map (f : List Int → List Int) (g : Int → Int) (h : ySim C' i s1 s2 G G1) (hf : ∀ w, C w → C' (f w)) (hg : ∀ p, 0 ≤ p → 0 ≤ g p) : ySim C i (fun w p => s1 (f w) (g p)) (fun w p => s2 (f w) (g p)) G G1 := fun ts ht => by
  obtain ⟨t1, a1, a2⟩ := h ts ht
  exact ⟨t1, a1, fun cnt lat cl td nu sg w p hc hp => a2 cnt lat cl td nu sg (f w) (g p) (hf w hc) (hg p hp)⟩
theorem yThr.map (f : List Int → List Int) (g : Int → Int) (h : yThr C' i s1 G G1) (hf : ∀ w, C w → C' (f w)) (hg : ∀ p, 0 ≤ p → 0 ≤ g p) : yThr C i (fun w p => s1 (f w) (g p)) G G1 := fun ts ht cnt lat cl td nu sg w p hc hp => h ts ht cnt lat cl td nu sg (f w) (g p) (hf w hc) (hg p hp)
theorem ySim.un (h : ySim C i s0 s1 G G1) (hU : gu_un ycd L G1 G2) (hL : yNo L yTC = false) : ySim C i s0 s1 G G2 := fun ts ht => by
  obtain ⟨t1, a1, a2⟩ := h ts ht
  exact ⟨t1, a1.un hU hL, a2⟩
theorem ySim.un0 (h : ySim C i s0 s1 G1 G2) (hU : gu_un ycd L G G1) (hL : yNo L yTC = false) : ySim C i s0 s1 G G2 := fun ts ht => h ts (ht.un hU hL)
theorem yThr.un0 (h : yThr C i s0 G1 G2) (hU : gu_un ycd L G G1) (hL : yNo L yTC = false) : yThr C i s0 G G2 := fun ts ht => h ts (ht.un hU hL)
theorem ySim.cast {s0' s1' : List Int → Int → sSt} (h : ySim C i s0 s1 G G1) (e0 : ∀ w p, s0' w p = s0 w p) (e1 : ∀ w p, C w → s1' w p = s1 w p) : ySim C i s0' s1' G G1 := fun ts ht => by
  obtain ⟨t1, a1, a2⟩ := h ts ht
  exact ⟨t1, a1, fun cnt lat cl td nu sg w p hc hp => by rw [e0, e1 w p hc]; exact a2 cnt lat cl td nu sg w p hc hp⟩
/-- one token -/
theorem ySim.tok (hU : gu_un ycd L G G1) (hL : yNo L yTC = false) (hk : (G 0 6).toInt ≠ 0) (ht : tTok (G1 2) (G1 0 3).toInt (G1 0 5).toInt (G2 0 6).toInt (G2 0 4).toInt (G2 0 7).toInt (G2 0 5).toInt) (e2 : G2 2 = G1 2) (e3 : G2 0 3 = G1 0 3) (hs : ∀ (v : Int) (r : List hTk), yV G v → ∀ (cnt lat cl : Int) (td : Nat → Int) (nu : Nat → Int32) (sg : Nat → sSt) (w : List Int) (p : Int), C w → 0 ≤ p → hF (((G 0 6).toInt, (G 0 4).toInt, v, yCi G) :: r) i cnt lat cl td nu sg (s0 w p) = hF r i cnt lat cl td nu sg (s1 w p)) : ySim C i s0 s1 G G2 := fun ts h => by
  obtain ⟨v, r, e, hv, h2⟩ := h.scan hU hL hk ht e2 e3
  exact ⟨r, h2, fun cnt lat cl td nu sg w p hc hp => by rw [e]; exact hs v r hv cnt lat cl td nu sg w p hc hp⟩
/-- a token that ends it -/
theorem yThr.tok (hU : gu_un ycd L G G1) (hL : yNo L yTC = false) {f : Int} (e8 : (G2 0 8).toInt = f) (e9 : (G2 0 9).toInt = (G1 0 4).toInt) (hs : ∀ (v : Int) (r : List hTk), yV G v → ∀ (cnt lat cl : Int) (td : Nat → Int) (nu : Nat → Int32) (sg : Nat → sSt) (w : List Int) (p : Int), C w → 0 ≤ p → hF (((G 0 6).toInt, (G 0 4).toInt, v, yCi G) :: r) i cnt lat cl td nu sg (s0 w p) = hBad f (G 0 4).toInt) : yThr C i s0 G G2 := fun ts h cnt lat cl td nu sg w p hc hp => by
  obtain ⟨v, r, e, hv⟩ := h.hd
  rw [e, hs v r hv cnt lat cl td nu sg w p hc hp, e8, e9, (yTq hU hL).2.1]
/-- what the token at hand allows -/
theorem ySim.hand (hs : ∀ (v : Int) (r : List hTk), yV G v → ∀ (cnt lat cl : Int) (td : Nat → Int) (nu : Nat → Int32) (sg : Nat → sSt) (w : List Int) (p : Int), C w → 0 ≤ p → hF (((G 0 6).toInt, (G 0 4).toInt, v, yCi G) :: r) i cnt lat cl td nu sg (s0 w p) = hF (((G 0 6).toInt, (G 0 4).toInt, v, yCi G) :: r) i cnt lat cl td nu sg (s1 w p)) : ySim C i s0 s1 G G := fun ts h => by
  obtain ⟨v, r, e, hv⟩ := h.hd
  exact ⟨ts, h, fun cnt lat cl td nu sg w p hc hp => by rw [e]; exact hs v r hv cnt lat cl td nu sg w p hc hp⟩
end YS
/-- states of the automaton -/
abbrev qW (o n : Int) (cs : List Int) : List Int → Int → sSt := fun w p => (1, w, o, p, n, cs)
abbrev qF (o n : Int) (cs : List Int) : List Int → Int → sSt := fun w p => (0, (sM w o cs).1, (sM w o cs).2.1, p, n, (sM w o cs).2.2)
abbrev qD (o n : Int) (cs : List Int) : List Int → Int → sSt := fun w p => (0, w, o, p, n, cs)
abbrev cA : List Int → Prop := fun _ => True
abbrev cP : List Int → Prop := fun w => ∀ a : Int, w.head? = some a → a ≠ -3 ∧ xsg a < 2
abbrev cS : List Int → Prop := fun w => ∀ a : Int, w.head? = some a → a = 40
theorem sM_cP {w cs : List Int} {o : Int} (h : cP w) : sM w o cs = (w, o, cs) := by
  cases w with
  | nil => rfl
  | cons a w => exact sM_no (h a rfl).1
theorem sJ_cP {w cs : List Int} {s : Int} (h : cP w) (hs : 2 ≤ s) : sJ s w cs = (w, cs) := by
  cases w with
  | nil => rfl
  | cons a w => exact sJ_no (by have := (h a rfl).2; omega)
theorem cS_cP {w : List Int} (h : cS w) : cP w := fun a ha => by
  have := h a ha
  subst this
  exact ⟨by decide, by decide⟩
theorem sJ_cS {w cs : List Int} {s : Int} (h : cS w) (hs : 1 ≤ s) : sJ s w cs = (w, cs) := by
  cases w with
  | nil => rfl
  | cons a w => exact sJ_no (by rw [h a rfl, xsg_40]; omega)
section YF
variable {C : List Int → Prop} {i : Nat} {o o' n n1 n2 n' v : Int} {cs cs1 cs2 cs' csf : List Int} {G G0 G1 G2 G3 G4 Gf : gS} {L L2 L3 : List Nat}
/-- a step over the token at hand -/
abbrev yStp (L : List Nat) (G G0 G1 : gS) : Prop := gu_un ycd L G G0 ∧ yNo L yTC = false ∧ tTok (G0 2) (G0 0 3).toInt (G0 0 5).toInt (G1 0 6).toInt (G1 0 4).toInt (G1 0 7).toInt (G1 0 5).toInt ∧ G1 2 = G0 2 ∧ G1 0 3 = G0 0 3
theorem yF_neg (hst : yStp L G G0 G1) (hk : (G 0 6).toInt = 3) (hv : (G 0 7).toInt = 45) (ho : o < 4) (ho' : o' = o + 1) (hq : ySim cA i (qW o' n1 cs1) (qF o' n' cs') G1 G2) (en : n1 = n) (ec : cs1 = cs) (hU2 : gu_un ycd L2 G2 Gf) (hL2 : yNo L2 yTC = false) (ef : csf = -3 :: cs') {nf : Int} (enf : nf = n') : ySim cA i (qW o n cs) (qF o nf csf) G Gf := by
  subst ho' en ec ef
  rw [enf]
  refine ySim.un ((ySim.tok (s1 := fun w p => qW (o + 1) n1 cs1 (-3 :: w) p) hst.1 hst.2.1 (by omega) hst.2.2.1 hst.2.2.2.1 hst.2.2.2.2 (fun u r hu cnt lat cl td nu sg w p _ _ => hF_neg hk (by have := hu.1 (Or.inr hk); omega) ho)).tr ((hq.map (C := cA) (fun w => -3 :: w) id (fun _ _ => trivial) (fun _ h => h)).cast (fun _ _ => rfl) (fun w p _ => ?_))) hU2 hL2
  show ((0 : Int), (sM w o (-3 :: cs')).1, (sM w o (-3 :: cs')).2.1, p, n', (sM w o (-3 :: cs')).2.2) = (0, (sM (-3 :: w) (o + 1) cs').1, (sM (-3 :: w) (o + 1) cs').2.1, p, n', (sM (-3 :: w) (o + 1) cs').2.2)
  rw [sM_go rfl, show o + 1 - 1 = o by omega]
theorem yF_negT (hst : yStp L G G0 G1) (hk : (G 0 6).toInt = 3) (hv : (G 0 7).toInt = 45) (ho : o < 4) (ho' : o' = o + 1) (hq : yThr cA i (qW o' n1 cs1) G1 G2) (en : n1 = n) (ec : cs1 = cs) : yThr cA i (qW o n cs) G G2 := by
  subst ho' en ec
  exact (ySim.tok (s1 := fun w p => qW (o + 1) n1 cs1 (-3 :: w) p) hst.1 hst.2.1 (by omega) hst.2.2.1 hst.2.2.2.1 hst.2.2.2.2 (fun u r hu cnt lat cl td nu sg w p _ _ => hF_neg hk (by have := hu.1 (Or.inr hk); omega) ho)).thr (hq.map (C := cA) (fun w => -3 :: w) id (fun _ _ => trivial) (fun _ h => h))
theorem yF_open (hst : yStp L G G0 G1) (hk : (G 0 6).toInt = 3) (hv : (G 0 7).toInt = 40) (ho : o < 4) (ho' : o' = o + 1) : ySim cA i (qW o n cs) (fun w p => qW o' n cs (40 :: w) (p + 1)) G G1 := by
  subst ho'
  exact ySim.tok hst.1 hst.2.1 (by omega) hst.2.2.1 hst.2.2.2.1 hst.2.2.2.2 (fun u r hu cnt lat cl td nu sg w p _ _ => hF_open hk (by have := hu.1 (Or.inr hk); omega) ho)
theorem cS_40 (w : List Int) (_ : cA w) : cS (40 :: w) := fun a ha => by
  have : (40 : Int) = a := Option.some.inj ha
  exact this.symm
theorem yF_sum (h : ySim cA i (qW o n cs) (fun w p => qW o' n1 cs1 (40 :: w) (p + 1)) G G1) (hS : ySim cS i (qW o' n1 cs1) (qD o' n' cs') G1 G2) : ySim cA i (qW o n cs) (fun w p => (0, 40 :: w, o', p + 1, n', cs')) G G2 := h.tr (hS.map (C := cA) (fun w => 40 :: w) (fun p => p + 1) cS_40 (fun p hp => by omega))
theorem yF_sumT (h : ySim cA i (qW o n cs) (fun w p => qW o' n1 cs1 (40 :: w) (p + 1)) G G1) (hS : yThr cS i (qW o' n1 cs1) G1 G2) : yThr cA i (qW o n cs) G G2 := h.thr (hS.map (C := cA) (fun w => 40 :: w) (fun p => p + 1) cS_40 (fun p hp => by omega))
theorem yF_close (h : ySim cA i (qW o n cs) (fun w p => (0, 40 :: w, o', p + 1, n', cs')) G G1) (ho' : o' = o + 1) (hst : yStp L G1 G2 Gf) (hk : (G1 0 6).toInt = 3) (hv : (G1 0 7).toInt = 41) (ef : csf = cs') {nf : Int} (enf : nf = n') : ySim cA i (qW o n cs) (qF o nf csf) G Gf := by
  subst ho' ef
  rw [enf]
  exact h.tr (ySim.tok hst.1 hst.2.1 (by omega) hst.2.2.1 hst.2.2.2.1 hst.2.2.2.2 (fun u r hu cnt lat cl td nu sg w p _ hp => hF_close hk (by have := hu.1 (Or.inr hk); omega) hp))
theorem yF_off (h : ySim cA i (qW o n cs) (fun w p => (0, 40 :: w, o', p + 1, n', cs')) G G1) (hU : gu_un ycd L G1 G2) (hL : yNo L yTC = false) (e8 : (Gf 0 8).toInt = 1) (e9 : (Gf 0 9).toInt = (G2 0 4).toInt) (hn : ¬ ((G1 0 6).toInt = 3 ∧ (G1 0 7).toInt = 41)) (hs : ¬ ((G1 0 6).toInt = 3 ∧ xsg (G1 0 7).toInt ≠ 0)) : yThr cA i (qW o n cs) G Gf := h.thr (yThr.tok hU hL e8 e9 (fun u r hu cnt lat cl td nu sg w p _ hp => hF_off (by omega) (fun q => hn ⟨q.1, by have := hu.1 (Or.inr q.1); omega⟩) (fun q => hs ⟨q.1, by have := hu.1 (Or.inr q.1); rw [← this]; exact q.2⟩)))
theorem yF_deep (hU : gu_un ycd L G G0) (hL : yNo L yTC = false) (hk : (G 0 6).toInt = 3) (hv : (G 0 7).toInt = 40 ∨ (G 0 7).toInt = 45) (ho : 4 ≤ o) (e8 : (Gf 0 8).toInt = 4) (e9 : (Gf 0 9).toInt = (G0 0 4).toInt) : yThr cA i (qW o n cs) G Gf := yThr.tok hU hL e8 e9 (fun u r hu cnt lat cl td nu sg w p _ _ => hF_deep hk (by have := hu.1 (Or.inr hk); omega) ho)
theorem yF_num (hst : yStp L G G0 Gf) (hk : (G 0 6).toInt = 2) (hn : n < 12) (hn' : n' = n + 1) (ef : csf = (G 0 7).toInt :: cs) : ySim cA i (qW o n cs) (qF o n' csf) G Gf := by
  subst hn' ef
  exact ySim.tok hst.1 hst.2.1 (by omega) hst.2.2.1 hst.2.2.2.1 hst.2.2.2.2 (fun u r hu cnt lat cl td nu sg w p _ _ => by rw [hF_num hk hn, hu.1 (Or.inl hk)])
theorem yLt_v {ls v : Int} (hv : yV G v) (hk : (G 0 6).toInt = 1) : sLi ls v = yLt ls G := by
  unfold yLt
  rcases hv.2 hk with ⟨a, b⟩ | ⟨a, b⟩
  · rw [if_pos ⟨hk, a⟩, b]
  · rw [if_neg (fun h => a h.2), b]
    unfold sLi
    split
    · rfl
    · rw [if_neg (by decide), if_neg (by omega)]
theorem yF_let {ls : Int} (hi : (i : Int) = ls) (hst : yStp L G G0 Gf) (hk : (G 0 6).toInt = 1) (hl : yLt ls G ≠ -1) (hn : n < 12) (hn' : n' = n + 1) (ef : csf = (-1 - yLt ls G) :: cs) : ySim cA i (qW o n cs) (qF o n' csf) G Gf := by
  subst hn' ef
  exact ySim.tok hst.1 hst.2.1 (by omega) hst.2.2.1 hst.2.2.2.1 hst.2.2.2.2 (fun u r hu cnt lat cl td nu sg w p _ _ => hF_let hk (by rw [hi]; exact yLt_v hu hk) hl hn)
theorem yF_none {ls : Int} (hi : (i : Int) = ls) (hU : gu_un ycd L G G0) (hL : yNo L yTC = false) (h1 : (G 0 6).toInt ≠ 2) (h2 : ¬ ((G 0 6).toInt = 3 ∧ ((G 0 7).toInt = 40 ∨ (G 0 7).toInt = 45))) (h3 : (G 0 6).toInt = 1 → yLt ls G = -1) (e8 : (Gf 0 8).toInt = 1) (e9 : (Gf 0 9).toInt = (G0 0 4).toInt) : yThr cA i (qW o n cs) G Gf := yThr.tok hU hL e8 e9 (fun u r hu cnt lat cl td nu sg w p _ _ => hF_none h1 (fun q => h2 ⟨q.1, by have := hu.1 (Or.inr q.1); have := q.2; omega⟩) (fun q => q.2 (by rw [hi, yLt_v hu q.1]; exact h3 q.1)))
theorem yF_many {ls : Int} (hi : (i : Int) = ls) (hU : gu_un ycd L G G0) (hL : yNo L yTC = false) (h1 : (G 0 6).toInt = 2 ∨ ((G 0 6).toInt = 1 ∧ yLt ls G ≠ -1)) (hn : 12 ≤ n) (e8 : (Gf 0 8).toInt = 4) (e9 : (Gf 0 9).toInt = (G0 0 4).toInt) : yThr cA i (qW o n cs) G Gf := yThr.tok hU hL e8 e9 (fun u r hu cnt lat cl td nu sg w p _ _ => hF_many (h1.imp id (fun q => ⟨q.1, by rw [hi, yLt_v hu q.1]; exact q.2⟩)) hn)
theorem yP_first (h : ySim cA i (qW o n cs) (qF o n' cs') G G1) : ySim cP i (qW o n cs) (qD o n' cs') G G1 := fun ts ht => by
  obtain ⟨t1, a1, a2⟩ := h ts ht
  refine ⟨t1, a1, fun cnt lat cl td nu sg w p hc hp => ?_⟩
  have h9 := a2 cnt lat cl td nu sg w p trivial hp
  rw [h9]
  show hF t1 i cnt lat cl td nu sg (0, (sM w o cs').1, (sM w o cs').2.1, p, n', (sM w o cs').2.2) = _
  rw [sM_cP hc]
theorem yThr.weak {s0 : List Int → Int → sSt} (h : yThr cA i s0 G G1) : yThr C i s0 G G1 := fun ts ht cnt lat cl td nu sg w p _ hp => h ts ht cnt lat cl td nu sg w p trivial hp
/-- a sign that binds most, ahead of its second factor -/
theorem yP_sign (h : ySim cP i (qW o n cs) (qD o n1 cs1) G G1) (hst : yStp L G1 G2 G3) (hk : (G1 0 6).toInt = 3) (hv : (G1 0 7).toInt = v) (h2 : xsg v = 2) : ySim cP i (qW o n cs) (fun w p => qW o n1 cs1 (v :: w) p) G G3 := h.tr (ySim.tok hst.1 hst.2.1 (by omega) hst.2.2.1 hst.2.2.2.1 hst.2.2.2.2 (fun u r hu cnt lat cl td nu sg w p hc _ => by
  have e : u = v := by have := hu.1 (Or.inr hk); omega
  subst e
  exact hF_sign hk (by omega) (sJ_cP hc (by omega))))
theorem yP_next (h : ySim cP i (qW o n cs) (fun w p => qW o n1 cs1 (v :: w) p) G G1) (h2 : xsg v = 2) (hq : ySim cA i (qW o n2 cs2) (qF o n' cs') G1 G2) (en : n2 = n1) (ec : cs2 = cs1) (hU : gu_un ycd L G2 Gf) (hL : yNo L yTC = false) (ef : csf = (-3 - v) :: cs') {nf : Int} (enf : nf = n') : ySim cP i (qW o n cs) (qD o nf csf) G Gf := by
  subst en ec ef
  rw [enf]
  have h3 : v ≠ -3 := fun e => by rw [e, xsg_m3] at h2; omega
  refine ySim.un (h.tr ((hq.map (C := cP) (fun w => v :: w) id (fun _ _ => trivial) (fun _ h => h)).tr (s2 := qD o n' ((-3 - v) :: cs')) (ySim.hand (fun u r hu cnt lat cl td nu sg w p hc _ => ?_)))) hU hL
  show hF _ i cnt lat cl td nu sg (0, (sM (v :: w) o cs').1, (sM (v :: w) o cs').2.1, p, n', (sM (v :: w) o cs').2.2) = _
  rw [sM_no h3]
  exact hF_j2 h2
theorem yP_nextT (h : ySim cP i (qW o n cs) (fun w p => qW o n1 cs1 (v :: w) p) G G1) (hq : yThr cA i (qW o n2 cs2) G1 G2) (en : n2 = n1) (ec : cs2 = cs1) : yThr cP i (qW o n cs) G G2 := by
  subst en ec
  exact h.thr (hq.map (C := cP) (fun w => v :: w) id (fun _ _ => trivial) (fun _ h => h))
theorem yS_first (h : ySim cP i (qW o n cs) (qD o n' cs') G G1) : ySim cS i (qW o n cs) (qD o n' cs') G G1 := fun ts ht => by
  obtain ⟨t1, a1, a2⟩ := h ts ht
  exact ⟨t1, a1, fun cnt lat cl td nu sg w p hc hp => a2 cnt lat cl td nu sg w p (cS_cP hc) hp⟩
theorem yS_firstT (h : yThr cP i (qW o n cs) G G1) : yThr cS i (qW o n cs) G G1 := fun ts ht cnt lat cl td nu sg w p hc hp => h ts ht cnt lat cl td nu sg w p (cS_cP hc) hp
theorem yS_sign (h : ySim cS i (qW o n cs) (qD o n1 cs1) G G1) (hst : yStp L G1 G2 G3) (hk : (G1 0 6).toInt = 3) (hv : (G1 0 7).toInt = v) (h2 : xsg v = 1) : ySim cS i (qW o n cs) (fun w p => qW o n1 cs1 (v :: w) p) G G3 := h.tr (ySim.tok hst.1 hst.2.1 (by omega) hst.2.2.1 hst.2.2.2.1 hst.2.2.2.2 (fun u r hu cnt lat cl td nu sg w p hc _ => by
  have e : u = v := by have := hu.1 (Or.inr hk); omega
  subst e
  exact hF_sign hk (by omega) (sJ_cS hc (by omega))))
theorem cP_1 {v : Int} (h2 : xsg v = 1) (w : List Int) (_ : cS w) : cP (v :: w) := fun a ha => by
  have : v = a := Option.some.inj ha
  subst this
  exact ⟨fun e => by rw [e, xsg_m3] at h2; omega, by omega⟩
theorem yS_next (h : ySim cS i (qW o n cs) (fun w p => qW o n1 cs1 (v :: w) p) G G1) (h2 : xsg v = 1) (hq : ySim cP i (qW o n2 cs2) (qD o n' cs') G1 G2) (en : n2 = n1) (ec : cs2 = cs1) (hk : ¬ ((G2 0 6).toInt = 3 ∧ xsg (G2 0 7).toInt = 2)) (hU : gu_un ycd L G2 Gf) (hL : yNo L yTC = false) (ef : csf = (-3 - v) :: cs') {nf : Int} (enf : nf = n') : ySim cS i (qW o n cs) (qD o nf csf) G Gf := by
  subst en ec ef
  rw [enf]
  refine ySim.un (h.tr ((hq.map (C := cS) (fun w => v :: w) id (cP_1 h2) (fun _ h => h)).tr (s2 := qD o n' ((-3 - v) :: cs')) (ySim.hand (fun u r hu cnt lat cl td nu sg w p hc _ => ?_)))) hU hL
  exact hF_j1 h2 (fun q => hk ⟨q.1, by have := hu.1 (Or.inr q.1); rw [← this]; exact q.2⟩)
theorem yS_nextT (h : ySim cS i (qW o n cs) (fun w p => qW o n1 cs1 (v :: w) p) G G1) (h2 : xsg v = 1) (hq : yThr cP i (qW o n2 cs2) G1 G2) (en : n2 = n1) (ec : cs2 = cs1) : yThr cS i (qW o n cs) G G2 := by
  subst en ec
  exact h.thr (hq.map (C := cS) (fun w => v :: w) id (cP_1 h2) (fun _ h => h))
end YF
