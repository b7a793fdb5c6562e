/-! the reference's clauses over the list of tokens -/
/-- the clause k, its numbers so far, the latest, the numbers of the shop: from one state of the reading to another, beside the reference -/
def yNs (k c0 l0 : Int) (n0 : Nat → Int32) (c1 l1 : Int) (n1 : Nat → Int32) (G G' : gS) : Prop := ∀ ts : List hTk, yTs G ts → ∃ ts' : List hTk, yTs G' ts' ∧ ∀ (cl : Int) (td : Nat → Int) (sg : Nat → sSt), hO ts k c0 l0 cl td n0 sg = hO ts' k c1 l1 cl td n1 sg
def yNt (k c0 l0 : Int) (n0 : Nat → Int32) (G G' : gS) : Prop := ∀ ts : List hTk, yTs G ts → ∀ (cl : Int) (td : Nat → Int) (sg : Nat → sSt), hO ts k c0 l0 cl td n0 sg = hBad (G' 0 8).toInt (G' 0 9).toInt
section YN
variable {k c0 l0 c1 l1 c2 l2 : Int} {n0 n1 n2 : Nat → Int32} {G G0 G1 G2 : gS} {L : List Nat}
theorem yNs.rf : yNs k c0 l0 n0 c0 l0 n0 G G := fun ts h => ⟨ts, h, fun _ _ _ => rfl⟩
theorem yNs.tr (h : yNs k c0 l0 n0 c1 l1 n1 G G1) (g : yNs k c1 l1 n1 c2 l2 n2 G1 G2) : yNs k c0 l0 n0 c2 l2 n2 G G2 := fun ts ht => by
  obtain ⟨t1, a1, a2⟩ := h ts ht
  obtain ⟨t2, b1, b2⟩ := g t1 a1
  exact ⟨t2, b1, fun cl td sg => (a2 cl td sg).trans (b2 cl td sg)⟩
theorem yNs.thr (h : yNs k c0 l0 n0 c1 l1 n1 G G1) (g : yNt k c1 l1 n1 G1 G2) : yNt k c0 l0 n0 G G2 := fun ts ht cl td sg => by
  obtain ⟨t1, a1, a2⟩ := h ts ht
  exact (a2 cl td sg).trans (g t1 a1 cl td sg)
theorem yNs.un (h : yNs k c0 l0 n0 c1 l1 n1 G G1) (hU : gu_un ycd L G1 G2) (hL : yNo L yTC = false) : yNs k c0 l0 n0 c1 l1 n1 G G2 := fun ts ht => by
  obtain ⟨t1, a1, a2⟩ := h ts ht
  exact ⟨t1, a1.un hU hL, a2⟩
theorem yNs.un0 (h : yNs k c0 l0 n0 c1 l1 n1 G1 G2) (hU : gu_un ycd L G G1) (hL : yNo L yTC = false) : yNs k c0 l0 n0 c1 l1 n1 G G2 := fun ts ht => h ts (ht.un hU hL)
theorem yNt.un0 (h : yNt k c0 l0 n0 G1 G2) (hU : gu_un ycd L G G1) (hL : yNo L yTC = false) : yNt k c0 l0 n0 G G2 := fun ts ht => h ts (ht.un hU hL)
/-- a number is taken -/
theorem yNs.num (hst : yStp L G G0 G1) (h0 : 0 ≤ k) (h9 : k ≤ 9) (hk : (G 0 6).toInt = 2) (ho : ¬ hOut k c0 l0 (G 0 7).toInt) (hm : c0 ≠ hMo k) : yNs k c0 l0 n0 (c0 + 1) (G 0 7).toInt (upd n0 (hSl k + c0).toNat (G 0 7)) G G1 := fun ts h => by
  obtain ⟨v, r, e, hv, h2⟩ := h.scan hst.1 hst.2.1 (by omega) hst.2.2.1 hst.2.2.2.1 hst.2.2.2.2
  have ev := hv.1 (Or.inl hk)
  subst ev
  exact ⟨r, h2, fun cl td sg => by rw [e, hO_nP h0 h9 hk ho hm, Int32.ofInt_toInt]⟩
theorem yNt.tok (hU : gu_un ycd L G G1) (hL : yNo L yTC = false) {f : Int} (e8 : (G2 0 8).toInt = f) (e9 : (G2 0 9).toInt = (G1 0 4).toInt) (hs : ∀ (v : Int) (r : List hTk), yV G v → ∀ (cl : Int) (td : Nat → Int) (sg : Nat → sSt), hO (((G 0 6).toInt, (G 0 4).toInt, v, yCi G) :: r) k c0 l0 cl td n0 sg = hBad f (G 0 4).toInt) : yNt k c0 l0 n0 G G2 := fun ts h cl td sg => by
  obtain ⟨v, r, e, hv⟩ := h.hd
  rw [e, hs v r hv cl td sg, e8, e9, (yTq hU hL).2.1]
theorem yNt.one (hU : gu_un ycd L G G1) (hL : yNo L yTC = false) (h0 : 0 ≤ k) (h9 : k ≤ 9) (hk : (G 0 6).toInt ≠ 2) (hc : ¬ ((k = 8 ∨ k = 9) ∧ 0 < c0 ∨ ¬ (k = 8 ∨ k = 9) ∧ c0 = hMo k)) (e8 : (G2 0 8).toInt = 1) (e9 : (G2 0 9).toInt = (G1 0 4).toInt) : yNt k c0 l0 n0 G G2 := yNt.tok hU hL e8 e9 (fun v r hv cl td sg => hO_n1 h0 h9 (fun q => hc q.2.2) (Or.inl hk))
theorem yNt.two (hU : gu_un ycd L G G1) (hL : yNo L yTC = false) (h0 : 0 ≤ k) (h9 : k ≤ 9) (hk : (G 0 6).toInt = 2) (hc : ¬ (¬ (k = 8 ∨ k = 9) ∧ c0 = hMo k)) (ho : hOut k c0 l0 (G 0 7).toInt) (e8 : (G2 0 8).toInt = 2) (e9 : (G2 0 9).toInt = (G1 0 4).toInt) : yNt k c0 l0 n0 G G2 := yNt.tok hU hL e8 e9 (fun v r hv cl td sg => by
  have ev := hv.1 (Or.inl hk)
  subst ev
  exact hO_n2 h0 h9 hk hc ho)
theorem yNt.four (hU : gu_un ycd L G G1) (hL : yNo L yTC = false) (h0 : 0 ≤ k) (h9 : k ≤ 9) (hk : (G 0 6).toInt = 2) (hc : k = 8 ∨ k = 9) (ho : ¬ hOut k c0 l0 (G 0 7).toInt) (hm : c0 = hMo k) (e8 : (G2 0 8).toInt = 4) (e9 : (G2 0 9).toInt = (G1 0 4).toInt) : yNt k c0 l0 n0 G G2 := yNt.tok hU hL e8 e9 (fun v r hv cl td sg => by
  have ev := hv.1 (Or.inl hk)
  subst ev
  exact hO_n4 h0 h9 hk (fun q => q.1 hc) ho hm)
theorem yNs.nm {q : Nat} (hst : yStp L G G0 G1) (h0 : 0 ≤ k) (h9 : k ≤ 9) (hk : (G 0 6).toInt = 2) (ho : ¬ hOut k c0 l0 (G 0 7).toInt) (hm : c0 ≠ hMo k) (hc : c1 = c0 + 1) (hq : hSl k + c0 = (q : Int)) : yNs k c0 l0 n0 c1 (G 0 7).toInt (upd n0 q (G 0 7)) G G1 := by
  have h := yNs.num (n0 := n0) hst h0 h9 hk ho hm
  rw [hq, ← hc] at h
  exact h
theorem yNt.lk {lo hi : Int} (hU : gu_un ycd L G G1) (hL : yNo L yTC = false) (h0 : 0 ≤ k) (h9 : k ≤ 9) (h : yLk lo hi G1 G2) (hc : ¬ ((k = 8 ∨ k = 9) ∧ 0 < c0 ∨ ¬ (k = 8 ∨ k = 9) ∧ c0 = hMo k) ∨ (G 0 6).toInt = 2) (hc2 : ¬ (¬ (k = 8 ∨ k = 9) ∧ c0 = hMo k)) (ho : (G 0 7).toInt < lo ∨ hi < (G 0 7).toInt → hOut k c0 l0 (G 0 7).toInt) : yNt k c0 l0 n0 G G2 := by
  obtain ⟨q3, q4, q5, q6, q7, q2⟩ := yTq hU hL
  obtain ⟨a1, a2⟩ := h
  rw [q6, q7] at a2
  rcases a2 with a2 | a2
  · exact yNt.one hU hL h0 h9 a2.1 (hc.resolve_right (fun e => a2.1 e)) a2.2 a1
  · exact yNt.two hU hL h0 h9 a2.1 hc2 (ho a2.2.1) a2.2.2 a1
end YN
/-- numbers and sums as the reference has read them: its numbers, teeth, sway, marks -/
def yNf (nu : Nat → Int32) (sg : Nat → sSt) (r t w : Nat → Int32) (M : Nat → List Int) : Prop := (∀ q : Nat, q < 12 → nu q = r q) ∧ (∀ q : Nat, (q : Int) < (r 10).toInt → nu (20 + q) = t q) ∧ (∀ q : Nat, (q : Int) < (r 11).toInt → nu (30 + q) = w q) ∧ ∀ i : Nat, i < 3 → (sg i).2.2.2.2.2 = M i
theorem yNf.put {nu r t w : Nat → Int32} {sg : Nat → sSt} {M : Nat → List Int} {q : Nat} {v : Int32} (h : yNf nu sg r t w M) (hq : q < 10) : yNf (upd nu q v) sg (upd r q v) t w M := by
  obtain ⟨h1, h2, h3, h4⟩ := h
  have e10 : upd r q v 10 = r 10 := if_neg (by omega)
  have e11 : upd r q v 11 = r 11 := if_neg (by omega)
  refine ⟨fun i hi => ?_, fun i hi => ?_, fun i hi => ?_, h4⟩
  · show (if i = q then v else nu i) = if i = q then v else r i
    rw [h1 i hi]
  · rw [e10] at hi
    rw [show upd nu q v (20 + i) = nu (20 + i) from if_neg (by omega)]
    exact h2 i hi
  · rw [e11] at hi
    rw [show upd nu q v (30 + i) = nu (30 + i) from if_neg (by omega)]
    exact h3 i hi
theorem yNf.row8 {nu nu' r t t' w : Nat → Int32} {sg : Nat → sSt} {M : Nat → List Int} {v : Int32} {n : Int} (h : yNf nu sg r t w M) (hn : ∀ q : Nat, (q : Int) < n → nu' (20 + q) = t' q) (ho : ∀ q : Nat, (q < 20 ∨ 20 + n ≤ (q : Int)) → nu' q = nu q) (n4 : n ≤ 4) (hv : v.toInt = n) : yNf (upd nu' 10 v) sg (upd r 10 v) t' w M := by
  obtain ⟨h1, h2, h3, h4⟩ := h
  have e10 : upd r 10 v 10 = v := if_pos rfl
  have e11 : upd r 10 v 11 = r 11 := if_neg (by omega)
  refine ⟨fun i hi => ?_, fun i hi => ?_, fun i hi => ?_, h4⟩
  · show (if i = 10 then v else nu' i) = if i = 10 then v else r i
    rw [ho i (Or.inl (by omega)), h1 i hi]
  · rw [e10, hv] at hi
    rw [show upd nu' 10 v (20 + i) = nu' (20 + i) from if_neg (by omega)]
    exact hn i hi
  · rw [e11] at hi
    rw [show upd nu' 10 v (30 + i) = nu' (30 + i) from if_neg (by omega), ho (30 + i) (Or.inr (by omega))]
    exact h3 i hi
theorem yNf.row9 {nu nu' r t w w' : Nat → Int32} {sg : Nat → sSt} {M : Nat → List Int} {v : Int32} {n : Int} (h : yNf nu sg r t w M) (hr : (r 10).toInt ≤ 10) (hn : ∀ q : Nat, (q : Int) < n → nu' (30 + q) = w' q) (ho : ∀ q : Nat, (q < 30 ∨ 30 + n ≤ (q : Int)) → nu' q = nu q) (hv : v.toInt = n) : yNf (upd nu' 11 v) sg (upd r 11 v) t w' M := by
  obtain ⟨h1, h2, h3, h4⟩ := h
  have e10 : upd r 11 v 10 = r 10 := if_neg (by omega)
  have e11 : upd r 11 v 11 = v := if_pos rfl
  refine ⟨fun i hi => ?_, fun i hi => ?_, fun i hi => ?_, h4⟩
  · show (if i = 11 then v else nu' i) = if i = 11 then v else r i
    rw [ho i (Or.inl (by omega)), h1 i hi]
  · rw [e10] at hi
    rw [show upd nu' 11 v (20 + i) = nu' (20 + i) from if_neg (by omega), ho (20 + i) (Or.inl (by omega))]
    exact h2 i hi
  · rw [e11, hv] at hi
    rw [show upd nu' 11 v (30 + i) = nu' (30 + i) from if_neg (by omega)]
    exact hn i hi
theorem yNf.sum {nu r t w : Nat → Int32} {sg : Nat → sSt} {M M' : Nat → List Int} {i : Nat} {s : sSt} (h : yNf nu sg r t w M) (ho : ∀ j : Nat, j < 3 → j ≠ i → M' j = M j) (hi : s.2.2.2.2.2 = M' i) : yNf nu (updS sg i s) r t w M' := by
  obtain ⟨h1, h2, h3, h4⟩ := h
  refine ⟨h1, h2, h3, fun j hj => ?_⟩
  by_cases e : j = i
  · subst e
    rw [updS_same]
    exact hi
  · rw [show updS sg i s j = sg j from if_neg e, ho j hj e]
    exact h4 j hj
def yMq (G : gS) : Nat → List Int := fun i => mL (3 + (i : Int)) G
def yNu (nu : Nat → Int32) (sg : Nat → sSt) (G : gS) : Prop := yNf nu sg (G 4) (G 6) (G 8) (yMq G)
def yNC : List Nat := [400, 600, 800, 1000, 1100, 1200]
theorem yNo.at {L C : List Nat} (hL : yNo L C = false) {n : Nat} (h : n ∈ C) : n ∉ L := fun h2 => by
  have h3 : yNo L C = true := List.any_eq_true.mpr ⟨n, h, List.contains_iff_mem.mpr h2⟩
  rw [hL] at h3
  cases h3
theorem yMq_un {G G' : gS} {L : List Nat} (hU : gu_un ycd L G G') (hL : yNo L [1000, 1100, 1200] = false) : yMq G' = yMq G := funext fun i => by
  unfold yMq mL
  rw [show G' 10 = G 10 from funext fun k => hU 10 k (yNo.at hL (n := 1000) (by decide)), show G' 11 = G 11 from funext fun k => hU 11 k (yNo.at hL (n := 1100) (by decide)), show G' 12 = G 12 from funext fun k => hU 12 k (yNo.at hL (n := 1200) (by decide))]
theorem yNu.un {nu : Nat → Int32} {sg : Nat → sSt} {G G' : gS} {L : List Nat} (h : yNu nu sg G) (hU : gu_un ycd L G G') (hL : yNo L yNC = false) : yNu nu sg G' := by
  unfold yNu yMq mL at *
  rw [show G' 4 = G 4 from funext fun k => hU 4 k (yNo.at hL (n := 400) (by decide)), show G' 6 = G 6 from funext fun k => hU 6 k (yNo.at hL (n := 600) (by decide)), show G' 8 = G 8 from funext fun k => hU 8 k (yNo.at hL (n := 800) (by decide)), show G' 10 = G 10 from funext fun k => hU 10 k (yNo.at hL (n := 1000) (by decide)), show G' 11 = G 11 from funext fun k => hU 11 k (yNo.at hL (n := 1100) (by decide)), show G' 12 = G 12 from funext fun k => hU 12 k (yNo.at hL (n := 1200) (by decide))]
  exact h
def hBeg (k : Int) (sg : Nat → sSt) : Nat → sSt := if 10 ≤ k then updS sg (k - 10).toNat (1, [], 0, 0, 0, []) else sg
/-- a clause's body was read: what follows decides -/
def yCl (k : Int) (G G' : gS) : Prop := ∀ ts : List hTk, yTs G ts → ∀ (lat cl : Int) (td : Nat → Int) (nu : Nat → Int32) (sg : Nat → sSt), yNu nu sg G → ∃ (ts' : List hTk) (nu' : Nat → Int32) (sg' : Nat → sSt) (c' l' : Int), yTs G' ts' ∧ yNu nu' sg' G' ∧ ∀ (v : Int) (r : List hTk), ts' = ((G' 0 6).toInt, (G' 0 4).toInt, v, yCi G') :: r → yV G' v → ((G' 0 6).toInt = 3 ∧ (G' 0 7).toInt = 59 → hO ts k 0 lat cl td nu (hBeg k sg) = hO r (-1) c' l' (cl + 1) td nu' sg') ∧ (¬ ((G' 0 6).toInt = 3 ∧ (G' 0 7).toInt = 59) → hO ts k 0 lat cl td nu (hBeg k sg) = hBad 1 (G' 0 4).toInt)
def yClT (k : Int) (G G' : gS) : Prop := ∀ ts : List hTk, yTs G ts → ∀ (lat cl : Int) (td : Nat → Int) (nu : Nat → Int32) (sg : Nat → sSt), hO ts k 0 lat cl td nu (hBeg k sg) = hBad (G' 0 8).toInt (G' 0 9).toInt
theorem hBeg_n {k : Int} {sg : Nat → sSt} (h9 : k ≤ 9) : hBeg k sg = sg := by
  unfold hBeg
  rw [if_neg (by omega)]
/-- of a clause of numbers -/
theorem yCl.num {k c : Int} {G G' : gS} (h0 : 0 ≤ k) (h9 : k ≤ 9) (h : ∀ (lat : Int) (nu : Nat → Int32), ∃ (l' : Int) (nu' : Nat → Int32), yNs k 0 lat nu c l' nu' G G' ∧ ∀ sg : Nat → sSt, yNu nu sg G → yNu (if k = 8 then upd nu' 10 (Int32.ofInt c) else if k = 9 then upd nu' 11 (Int32.ofInt c) else nu') sg G') (hc : (k = 8 ∨ k = 9) ∧ 0 < c ∧ (G' 0 6).toInt ≠ 2 ∨ ¬ (k = 8 ∨ k = 9) ∧ c = hMo k) : yCl k G G' := fun ts ht lat cl td nu sg hn => by
  obtain ⟨l', nu', a1, a2⟩ := h lat nu
  obtain ⟨ts', b1, b2⟩ := a1 ts ht
  refine ⟨ts', _, sg, c, l', b1, a2 sg hn, fun v r e hv => ⟨fun q => ?_, fun q => ?_⟩⟩
  · have ev := hv.1 (Or.inr q.1)
    rw [hBeg_n h9, b2 cl td sg, e, hO_nE h0 h9 ⟨q.1, by omega, by omega⟩]
  · rw [hBeg_n h9, b2 cl td sg, e]
    exact hO_n1 h0 h9 (fun q2 => q ⟨q2.1, by have := hv.1 (Or.inr q2.1); have := q2.2.1; omega⟩) (by omega)
theorem yClT.num {k : Int} {G G' : gS} (h9 : k ≤ 9) (h : ∀ (lat : Int) (nu : Nat → Int32), yNt k 0 lat nu G G') : yClT k G G' := fun ts ht lat cl td nu sg => by
  rw [hBeg_n h9]
  exact h lat nu ts ht cl td sg
section YC
variable {k lo hi n : Int} {G G0 G1 G2 G3 G4 : gS} {L L2 L3 : List Nat} {v v0 v1 : Int32} {a : Nat}
theorem yClT.one (h0 : 0 ≤ k) (h9 : k ≤ 7) (hm : hMo k ≠ 0) (hl : lo = hLo k) (hh : hi = hHi k) (h : yLk lo hi G G2) : yClT k G G2 := yClT.num (by omega) (fun lat nu => yNt.lk (L := []) gu_un.rf rfl h0 (by omega) h (Or.inl (by omega)) (by omega) (fun q => q.elim (fun a => Or.inl (hl ▸ a)) (fun a => Or.inr (Or.inl (hh ▸ a)))))
theorem yCl.one (h0 : 0 ≤ k) (h9 : k ≤ 7) (h1 : hMo k = 1) (hq : hSl k = (a : Int)) (ha : a < 10) (hst : yStp L G G0 G1) (hk : (G 0 6).toInt = 2) (hv : v.toInt = (G 0 7).toInt) (hlo : hLo k ≤ v.toInt) (hhi : v.toInt ≤ hHi k) (hU : gu_un ycd L2 G1 G2) (hL : yNo L2 yTC = false) (e4 : G2 4 = upd (G 4) a v) (e6 : G2 6 = G 6) (e8 : G2 8 = G 8) (em : yMq G2 = yMq G) : yCl k G G2 := by
  have ev : v = G 0 7 := Int32.toInt_inj.mp hv
  subst ev
  refine yCl.num (c := 1) h0 (by omega) (fun lat nu => ⟨_, _, (yNs.nm (c0 := 0) (c1 := 1) (l0 := lat) (n0 := nu) (q := a) hst h0 (by omega) hk (by show ¬ (_ ∨ _ ∨ _); omega) (by omega) rfl (by omega)).un hU hL, fun sg hn => ?_⟩) (Or.inr ⟨by omega, h1.symm⟩)
  rw [if_neg (by omega), if_neg (by omega)]
  unfold yNu
  rw [e4, e6, e8, em]
  exact yNf.put hn ha
theorem yClT.two (h34 : (k = 3 ∧ a = 3) ∨ (k = 4 ∧ a = 5)) (hst : yStp L G G0 G1) (hk : (G 0 6).toInt = 2) (hv : v0.toInt = (G 0 7).toInt) (b0 : 0 ≤ v0.toInt) (b1 : v0.toInt ≤ 200) (hU : gu_un ycd L2 G1 G2) (hL : yNo L2 yTC = false) (hl : lo = v0.toInt) (hh : hi = 200 ∨ hi = v0.toInt + 3) (hm : hi ≤ 200 ∧ hi ≤ v0.toInt + 3) (h : yLk lo hi G2 G3) : yClT k G G3 := by
  have ev : v0 = G 0 7 := Int32.toInt_inj.mp hv
  subst ev
  have m2 : hMo k = 2 := by rcases h34 with ⟨e, -⟩ | ⟨e, -⟩ <;> (subst e; rfl)
  have mL' : hLo k = 0 := by rcases h34 with ⟨e, -⟩ | ⟨e, -⟩ <;> (subst e; rfl)
  have mH : hHi k = 200 := by rcases h34 with ⟨e, -⟩ | ⟨e, -⟩ <;> (subst e; rfl)
  have mS : hSl k = (a : Int) := by rcases h34 with ⟨e, e2⟩ | ⟨e, e2⟩ <;> (subst e; subst e2; rfl)
  exact yClT.num (by omega) (fun lat nu => (yNs.nm (c0 := 0) (c1 := 1) (l0 := lat) (n0 := nu) (q := a) hst (by omega) (by omega) hk (by show ¬ (_ ∨ _ ∨ _); omega) (by omega) rfl (by omega)).thr (yNt.lk hU hL (by omega) (by omega) h (Or.inl (by omega)) (by omega) (fun q => by show _ ∨ _ ∨ _; omega)))
theorem yCl.two (h34 : (k = 3 ∧ a = 3) ∨ (k = 4 ∧ a = 5)) (hst : yStp L G G0 G1) (hk : (G 0 6).toInt = 2) (hv : v0.toInt = (G 0 7).toInt) (b0 : 0 ≤ v0.toInt) (b1 : v0.toInt ≤ 200) (hst2 : yStp L2 G1 G2 G3) (hk2 : (G1 0 6).toInt = 2) (hv2 : v1.toInt = (G1 0 7).toInt) (b2 : v0.toInt ≤ v1.toInt) (b3 : v1.toInt ≤ 200) (b4 : v1.toInt ≤ v0.toInt + 3) (hU : gu_un ycd L3 G3 G4) (hL : yNo L3 yTC = false) (e4 : G4 4 = upd (upd (G 4) a v0) (a + 1) v1) (e6 : G4 6 = G 6) (e8 : G4 8 = G 8) (em : yMq G4 = yMq G) : yCl k G G4 := by
  have ev : v0 = G 0 7 := Int32.toInt_inj.mp hv
  have ev2 : v1 = G1 0 7 := Int32.toInt_inj.mp hv2
  subst ev
  subst ev2
  have m2 : hMo k = 2 := by rcases h34 with ⟨e, -⟩ | ⟨e, -⟩ <;> (subst e; rfl)
  have mL' : hLo k = 0 := by rcases h34 with ⟨e, -⟩ | ⟨e, -⟩ <;> (subst e; rfl)
  have mH : hHi k = 200 := by rcases h34 with ⟨e, -⟩ | ⟨e, -⟩ <;> (subst e; rfl)
  have mS : hSl k = (a : Int) := by rcases h34 with ⟨e, e2⟩ | ⟨e, e2⟩ <;> (subst e; subst e2; rfl)
  have ha : a + 1 < 10 := by omega
  refine yCl.num (c := 2) (by omega) (by omega) (fun lat nu => ⟨_, _, ((yNs.nm (c0 := 0) (c1 := 1) (l0 := lat) (n0 := nu) (q := a) hst (by omega) (by omega) hk (by show ¬ (_ ∨ _ ∨ _); omega) (by omega) rfl (by omega)).tr (yNs.nm (c0 := 1) (c1 := 2) (q := a + 1) hst2 (by omega) (by omega) hk2 (by show ¬ (_ ∨ _ ∨ _); omega) (by omega) rfl (by omega))).un hU hL, fun sg hn => ?_⟩) (Or.inr ⟨by omega, m2.symm⟩)
  rw [if_neg (by omega), if_neg (by omega)]
  unfold yNu
  rw [e4, e6, e8, em]
  exact yNf.put (yNf.put hn (by omega)) ha
/-- a row of numbers: n of them were read into the row t; they stand from b on -/
def yRo (k : Int) (b t : Nat) (n : Int) (G G1 : gS) : Prop := ∀ (lat : Int) (nu : Nat → Int32), ∃ (l' : Int) (nu' : Nat → Int32), yNs k 0 lat nu n l' nu' G G1 ∧ (∀ q : Nat, (q : Int) < n → nu' (b + q) = G1 t q) ∧ ∀ q : Nat, (q < b ∨ (b : Int) + n ≤ (q : Int)) → nu' q = nu q
theorem yRo.at0 {b t : Nat} : yRo k b t 0 G G := fun lat nu => ⟨lat, nu, yNs.rf, fun q hq => by omega, fun _ _ => rfl⟩
theorem yRo.step {b t : Nat} {y : Int} (h : yRo k b t n G G1) (h89 : k = 8 ∨ k = 9) (hb : hSl k = (b : Int)) (h0 : 0 ≤ n) (hst : yStp L G1 G2 G3) (hk : (G1 0 6).toInt = 2) (hv : v.toInt = (G1 0 7).toInt) (hlo : hLo k ≤ v.toInt) (hhi : v.toInt ≤ hHi k) (hm : n ≠ hMo k) (hU : gu_un ycd L2 G3 G4) (hL : yNo L2 yTC = false) (ht : G4 t = upd (G1 t) n.toNat v) (hy : y = n + 1) : yRo k b t y G G4 := fun lat nu => by
  have ev : v = G1 0 7 := Int32.toInt_inj.mp hv
  subst ev hy
  obtain ⟨l', nu', a1, a2, a3⟩ := h lat nu
  refine ⟨_, _, a1.tr ((yNs.nm (c0 := n) (c1 := n + 1) (q := b + n.toNat) hst (by omega) (by omega) hk (by show ¬ (_ ∨ _ ∨ _); omega) hm rfl (by omega)).un hU hL), fun q hq => ?_, fun q hq => ?_⟩
  · rw [ht]
    by_cases e : q = n.toNat
    · rw [e, show upd nu' (b + n.toNat) (G1 0 7) (b + n.toNat) = G1 0 7 from if_pos rfl, show upd (G1 t) n.toNat (G1 0 7) n.toNat = G1 0 7 from if_pos rfl]
    · rw [show upd nu' (b + n.toNat) (G1 0 7) (b + q) = nu' (b + q) from if_neg (by omega), show upd (G1 t) n.toNat (G1 0 7) q = G1 t q from if_neg e]
      exact a2 q (by omega)
  · rw [show upd nu' (b + n.toNat) (G1 0 7) q = nu' q from if_neg (by omega)]
    exact a3 q (by omega)
theorem yRo.thr {b t : Nat} (h : yRo k b t n G G1) (g : ∀ (lat : Int) (nu : Nat → Int32), yNt k n lat nu G1 G2) : ∀ (lat : Int) (nu : Nat → Int32), yNt k 0 lat nu G G2 := fun lat nu => by
  obtain ⟨l', nu', a1, -⟩ := h lat nu
  exact a1.thr (g l' nu')
theorem yCl.row8 (h : yRo 8 20 6 n G G1) (h0 : 0 < n) (h4 : n ≤ 4) (hk : (G1 0 6).toInt ≠ 2) (hU : gu_un ycd L G1 G2) (hL : yNo L yTC = false) (hv : v.toInt = n) (e4 : G2 4 = upd (G 4) 10 v) (e6 : G2 6 = G1 6) (e8 : G2 8 = G 8) (em : yMq G2 = yMq G) : yCl 8 G G2 := by
  refine yCl.num (c := n) (by decide) (by decide) (fun lat nu => ?_) (Or.inl ⟨Or.inl rfl, h0, by rw [(yTq hU hL).2.2.2.1]; exact hk⟩)
  obtain ⟨l', nu', a1, a2, a3⟩ := h lat nu
  refine ⟨l', nu', a1.un hU hL, fun sg hn => ?_⟩
  rw [if_pos rfl, ← hv, Int32.ofInt_toInt]
  unfold yNu
  rw [e4, e6, e8, em]
  exact yNf.row8 hn a2 a3 h4 hv
theorem yCl.row9 (h : yRo 9 30 8 n G G1) (hr : (G 4 10).toInt ≤ 10) (h0 : 0 < n) (hk : (G1 0 6).toInt ≠ 2) (hU : gu_un ycd L G1 G2) (hL : yNo L yTC = false) (hv : v.toInt = n) (e4 : G2 4 = upd (G 4) 11 v) (e6 : G2 6 = G 6) (e8 : G2 8 = G1 8) (em : yMq G2 = yMq G) : yCl 9 G G2 := by
  refine yCl.num (c := n) (by decide) (by decide) (fun lat nu => ?_) (Or.inl ⟨Or.inr rfl, h0, by rw [(yTq hU hL).2.2.2.1]; exact hk⟩)
  obtain ⟨l', nu', a1, a2, a3⟩ := h lat nu
  refine ⟨l', nu', a1.un hU hL, fun sg hn => ?_⟩
  rw [if_neg (by decide), if_pos rfl, ← hv, Int32.ofInt_toInt]
  unfold yNu
  rw [e4, e6, e8, em]
  exact yNf.row9 hn hr a2 a3 hv
end YC
/-- the marks of the other sums stay -/
theorem ySg.mo {c w : Int} {G G1 : gS} {j : Int} (h : ySg c w G G1) (hw : 0 ≤ w) (hj : 0 ≤ j) (hn : j ≠ w) (h0 : 0 ≤ (G 12 w.toNat).toInt) (hb : 0 ≤ (G 12 j.toNat).toInt ∧ (G 12 j.toNat).toInt ≤ 80) : mL j G1 = mL j G := by
  obtain ⟨a1, a2, a3, a4, a5⟩ := h
  unfold mL
  rw [a3 j.toNat (by omega)]
  exact mkr_ext (fun i i1 i2 => a4 i (by omega))
/-- of a clause of a sum -/
theorem yCl.sum {i : Nat} {n : Int} {cs : List Int} {G G' : gS} (h3 : i < 3) (h : ySim cS i (qW 0 0 []) (qD 0 n cs) G G') (hs : (G' 0 6).toInt ≠ 3 ∨ xsg (G' 0 7).toInt = 0) (hu : ∀ (nu : Nat → Int32) (sg : Nat → sSt), yNu nu sg G → yNu nu (updS sg i (0, [], 0, 0, n, cs)) G') : yCl (10 + (i : Int)) G G' := fun ts ht lat cl td nu sg hn => by
  obtain ⟨ts', b1, b2⟩ := h ts ht
  have e0 : hO ts (10 + (i : Int)) 0 lat cl td nu (hBeg (10 + (i : Int)) sg) = hF ts' i 0 lat cl td nu sg (0, [], 0, 0, n, cs) := by
    unfold hBeg
    rw [if_pos (by omega), show (10 + (i : Int) - 10).toNat = i by omega]
    exact b2 0 lat cl td nu sg [] 0 (fun a ha => by cases ha) (by omega)
  refine ⟨ts', nu, updS sg i (0, [], 0, 0, n, cs), 0, lat, b1, hu nu sg hn, fun v r e hv => ⟨fun q => ?_, fun q => ?_⟩⟩
  · have ev := hv.1 (Or.inr q.1)
    rw [e0, e]
    exact hF_fin q.1 (by omega) rfl rfl
  · rw [e0, e]
    exact hF_off (fun q2 => q ⟨q2.1, by have := hv.1 (Or.inr q2.1); have := q2.2.1; omega⟩) (by omega) (fun q2 => by
      have ev := hv.1 (Or.inr q2.1)
      rw [ev] at q2
      rcases hs with h9 | h9
      · exact h9 q2.1
      · exact q2.2 h9)
theorem yClT.sum {i : Nat} {G G' : gS} (h : yThr cS i (qW 0 0 []) G G') : yClT (10 + (i : Int)) G G' := fun ts ht lat cl td nu sg => by
  unfold hBeg
  rw [if_pos (by omega), show (10 + (i : Int) - 10).toNat = i by omega]
  exact h ts ht 0 lat cl td nu sg [] 0 (fun a ha => by cases ha) (by omega)
/-! the whole text -/
/-- numbers and sums of an untold shop -/
def hSt (nu : Nat → Int32) (sg : Nat → sSt) : Prop := (∀ q : Nat, q < 36 → nu q = hU q) ∧ (sg 0).2.2.2.2.2 = [-1] ∧ (sg 1).2.2.2.2.2 = [0] ∧ (sg 2).2.2.2.2.2 = [0]
/-- the reference's rows of an untold shop -/
def yPn (G : gS) : Prop := (∀ q : Nat, q < 12 → G 4 q = gz_untold q) ∧ G 6 0 = 0 ∧ G 8 0 = 0 ∧ mL 3 G = [-1] ∧ mL 4 G = [0] ∧ mL 5 G = [0] ∧ ∀ q : Nat, q < 13 → (G 9 q).toInt = 0
theorem yPn.nu {nu : Nat → Int32} {sg : Nat → sSt} {G : gS} (h : yPn G) (hs : hSt nu sg) : yNu nu sg G := by
  obtain ⟨h1, h2, h3, h4, h5, h6, -⟩ := h
  obtain ⟨s1, s2, s3, s4⟩ := hs
  have e10 : G 4 10 = 1 := by rw [h1 10 (by decide)]; rfl
  have e11 : G 4 11 = 1 := by rw [h1 11 (by decide)]; rfl
  refine ⟨fun q hq => ?_, fun q hq => ?_, fun q hq => ?_, fun i hi => ?_⟩
  · rw [s1 q (by omega), h1 q hq]
    exact if_pos hq
  · rw [e10] at hq
    obtain rfl : q = 0 := by have h9 : (q : Int) < 1 := hq; omega
    rw [h2, s1 _ (by decide)]
    rfl
  · rw [e11] at hq
    obtain rfl : q = 0 := by have h9 : (q : Int) < 1 := hq; omega
    rw [h3, s1 _ (by decide)]
    rfl
  · rcases (show i = 0 ∨ i = 1 ∨ i = 2 by omega) with rfl | rfl | rfl
    · exact s2.trans h4.symm
    · exact s3.trans h5.symm
    · exact s4.trans h6.symm
/-- n clauses were read -/
def yRd (n : Int) (G0 G : gS) : Prop := ∀ ts0 : List hTk, yTs G0 ts0 → ∀ (cnt lat : Int) (nu : Nat → Int32) (sg : Nat → sSt), hSt nu sg → ∃ (ts : List hTk) (td : Nat → Int) (nu' : Nat → Int32) (sg' : Nat → sSt) (c' l' : Int), yTs G ts ∧ yNu nu' sg' G ∧ (∀ q : Nat, q < 13 → td q = (G 9 q).toInt) ∧ hO ts0 (-1) cnt lat 0 (fun _ => 0) nu sg = hO ts (-1) c' l' n td nu' sg'
def yRdT (G0 G : gS) : Prop := ∀ ts0 : List hTk, yTs G0 ts0 → ∀ (cnt lat : Int) (nu : Nat → Int32) (sg : Nat → sSt), hSt nu sg → hO ts0 (-1) cnt lat 0 (fun _ => 0) nu sg = hBad (G 0 8).toInt (G 0 9).toInt
/-- all was read -/
def yDn (n : Int) (G0 G : gS) : Prop := ∀ ts0 : List hTk, yTs G0 ts0 → ∀ (cnt lat : Int) (nu : Nat → Int32) (sg : Nat → sSt), hSt nu sg → ∃ (nu' : Nat → Int32) (sg' : Nat → sSt), yNu nu' sg' G ∧ hO ts0 (-1) cnt lat 0 (fun _ => 0) nu sg = (0, -1, n, nu', mL 3 G, mL 4 G, mL 5 G)
section YR
variable {n c y : Int} {G0 G G1 G2 G3 G4 G5 : gS} {L L2 L3 L4 L5 : List Nat}
theorem yRd.at0 (h : yPn G) (hU : gu_un ycd L G0 G) (hL : yNo L yTC = false) : yRd 0 G0 G := fun ts0 ht cnt lat nu sg hs => ⟨ts0, fun _ => 0, nu, sg, cnt, lat, ht.un hU hL, h.nu hs, fun q hq => (h.2.2.2.2.2.2 q hq).symm, rfl⟩
theorem yRd.fin (h : yRd n G0 G) (hk : (G 0 6).toInt = 0) : yDn n G0 G := fun ts0 ht cnt lat nu sg hs => by
  obtain ⟨ts, td, nu', sg', c', l', a1, a2, a3, a4⟩ := h ts0 ht cnt lat nu sg hs
  obtain ⟨v, r, e, -⟩ := a1.hd
  refine ⟨nu', sg', a2, ?_⟩
  rw [a4, e, hO_end rfl hk]
  have q0 := a2.2.2.2 0 (by decide)
  have q1 := a2.2.2.2 1 (by decide)
  have q2 := a2.2.2.2 2 (by decide)
  rw [q0, q1, q2]
  rfl
/-- no clause's word -/
theorem yRd.t1 (h : yRd n G0 G) (hk : (G 0 6).toInt ≠ 0) (hc : yCi G = -1) (hU : gu_un ycd L G G1) (hL : yNo L yTC = false) (e8 : (G2 0 8).toInt = 1) (e9 : (G2 0 9).toInt = (G1 0 4).toInt) : yRdT G0 G2 := fun ts0 ht cnt lat nu sg hs => by
  obtain ⟨ts, td, nu', sg', c', l', a1, a2, a3, a4⟩ := h ts0 ht cnt lat nu sg hs
  obtain ⟨v, r, e, -⟩ := a1.hd
  rw [a4, e, hO_w1 rfl hk hc, e8, e9, (yTq hU hL).2.1]
/-- a word that was told -/
theorem yRd.t3 (h : yRd n G0 G) (hk : (G 0 6).toInt ≠ 0) (hc : yCi G = c) (h0 : 0 ≤ c) (h12 : c ≤ 12) (ht : (G 9 c.toNat).toInt ≠ 0) (hU : gu_un ycd L G G1) (hL : yNo L yTC = false) (e8 : (G2 0 8).toInt = 3) (e9 : (G2 0 9).toInt = (G1 0 4).toInt) : yRdT G0 G2 := fun ts0 ht0 cnt lat nu sg hs => by
  obtain ⟨ts, td, nu', sg', c', l', a1, a2, a3, a4⟩ := h ts0 ht0 cnt lat nu sg hs
  obtain ⟨v, r, e, -⟩ := a1.hd
  rw [a4, e, hO_w3 rfl hk (by omega) (by rw [hc, a3 _ (by omega)]; exact ht), e8, e9, (yTq hU hL).2.1]
/-- behind a clause's word -/
def yRw (n c : Int) (G0 G : gS) : Prop := ∀ ts0 : List hTk, yTs G0 ts0 → ∀ (cnt lat : Int) (nu : Nat → Int32) (sg : Nat → sSt), hSt nu sg → ∃ (ts : List hTk) (td : Nat → Int) (nu' : Nat → Int32) (sg' : Nat → sSt) (l' : Int), yTs G ts ∧ yNu nu' sg' G ∧ (∀ q : Nat, q < 13 → td q = (G 9 q).toInt) ∧ hO ts0 (-1) cnt lat 0 (fun _ => 0) nu sg = hO ts c 0 l' n td nu' (hBeg c sg')
theorem yRd.word (h : yRd n G0 G) (hk : (G 0 6).toInt ≠ 0) (hc : yCi G = c) (h0 : 0 ≤ c) (h12 : c ≤ 12) (ht : (G 9 c.toNat).toInt = 0) (hst : yStp L G G1 G2) (hU : gu_un ycd L2 G G2) (hL : yNo L2 yNC = false) (e9 : ∀ q : Nat, q < 13 → (G2 9 q).toInt = if q = c.toNat then 1 else (G 9 q).toInt) : yRw n c G0 G2 := fun ts0 ht0 cnt lat nu sg hs => by
  obtain ⟨ts, td, nu', sg', c', l', a1, a2, a3, a4⟩ := h ts0 ht0 cnt lat nu sg hs
  obtain ⟨v, r, e, hv, hr⟩ := a1.scan hst.1 hst.2.1 hk hst.2.2.1 hst.2.2.2.1 hst.2.2.2.2
  refine ⟨r, updI td c.toNat 1, nu', sg', l', hr, a2.un hU hL, fun q hq => ?_, ?_⟩
  · rw [e9 q hq]
    show (if q = c.toNat then 1 else td q) = _
    rw [a3 q hq]
  · rw [a4, e, hO_wd rfl hk (by omega) (by rw [hc, a3 _ (by omega)]; exact ht), hc]
    rfl
theorem yRw.thr (h : yRw n c G0 G) (g : yClT c G G1) : yRdT G0 G1 := fun ts0 ht0 cnt lat nu sg hs => by
  obtain ⟨ts, td, nu', sg', l', a1, a2, a3, a4⟩ := h ts0 ht0 cnt lat nu sg hs
  rw [a4]
  exact g ts a1 l' n td nu' sg'
theorem yRw.t5 (h : yRw n c G0 G) (g : yCl c G G1) (hk : ¬ ((G1 0 6).toInt = 3 ∧ (G1 0 7).toInt = 59)) (hU : gu_un ycd L G1 G2) (hL : yNo L yTC = false) (e8 : (G3 0 8).toInt = 1) (e9 : (G3 0 9).toInt = (G2 0 4).toInt) : yRdT G0 G3 := fun ts0 ht0 cnt lat nu sg hs => by
  obtain ⟨ts, td, nu', sg', l', a1, a2, a3, a4⟩ := h ts0 ht0 cnt lat nu sg hs
  obtain ⟨ts', nu2, sg2, c2, l2, b1, b2, b3⟩ := g ts a1 l' n td nu' sg' a2
  obtain ⟨v, r, e, hv⟩ := b1.hd
  rw [a4, (b3 v r e hv).2 hk, e8, e9, (yTq hU hL).2.1]
theorem yRw.step (h : yRw n c G0 G) (g : yCl c G G1) (hk : (G1 0 6).toInt = 3) (hv : (G1 0 7).toInt = 59) (hU : gu_un ycd L G G1) (hL : yNo L [900] = false) (hst : yStp L2 G1 G2 G3) (hU3 : gu_un ycd L3 G1 G3) (hL3 : yNo L3 yNC = false) (hL9 : yNo L3 [900] = false) (hy : y = n + 1) : yRd y G0 G3 := fun ts0 ht0 cnt lat nu sg hs => by
  obtain ⟨ts, td, nu', sg', l', a1, a2, a3, a4⟩ := h ts0 ht0 cnt lat nu sg hs
  obtain ⟨ts', nu2, sg2, c2, l2, b1, b2, b3⟩ := g ts a1 l' n td nu' sg' a2
  obtain ⟨v, r, e, hv', hr⟩ := b1.scan hst.1 hst.2.1 (by omega) hst.2.2.1 hst.2.2.2.1 hst.2.2.2.2
  refine ⟨r, td, nu2, sg2, c2, l2, hr, b2.un hU3 hL3, fun q hq => ?_, ?_⟩
  · rw [hU3 9 q (yNo.at hL9 (n := 900) (by decide)), hU 9 q (yNo.at hL (n := 900) (by decide))]
    exact a3 q hq
  · rw [a4, (b3 v r e hv').1 ⟨hk, hv⟩, hy]
end YR
/-- the shop that stands, out of the rows that were read -/
def yTkn (G G' : gS) : Prop := (∀ q : Nat, q < 12 → G' 3 q = G 4 q) ∧ (∀ q : Nat, (q : Int) < (G 4 10).toInt → G' 5 q = G 6 q) ∧ (∀ q : Nat, (q : Int) < (G 4 11).toInt → G' 7 q = G 8 q) ∧ mL 0 G' = mL 3 G ∧ mL 1 G' = mL 4 G ∧ mL 2 G' = mL 5 G
/-- numbers of a shop that stands -/
def yNm (nu : Nat → Int32) (G : gS) : Prop := (∀ q : Nat, q < 12 → nu q = G 3 q) ∧ (∀ q : Nat, (q : Int) < (G 3 10).toInt → nu (20 + q) = G 5 q) ∧ ∀ q : Nat, (q : Int) < (G 3 11).toInt → nu (30 + q) = G 7 q
theorem yTkn.nm {nu : Nat → Int32} {sg : Nat → sSt} {G G' : gS} (h : yTkn G G') (g : yNu nu sg G) : yNm nu G' := by
  obtain ⟨h1, h2, h3, -⟩ := h
  obtain ⟨g1, g2, g3, -⟩ := g
  refine ⟨fun q hq => by rw [g1 q hq, h1 q hq], fun q hq => ?_, fun q hq => ?_⟩
  · rw [h1 10 (by decide)] at hq
    rw [g2 q hq, h2 q hq]
  · rw [h1 11 (by decide)] at hq
    rw [g3 q hq, h3 q hq]
/-! the marks that are taken over -/
theorem mkr_sh {kd vl kd' vl' : Nat → Int32} {b b' : Nat} : ∀ {m : Nat}, (∀ i : Nat, i < m → kd' (b' + i) = kd (b + i) ∧ vl' (b' + i) = vl (b + i)) → mkr kd' vl' b' m = mkr kd vl b m
  | 0, _ => rfl
  | m + 1, h => by
    show mEn (kd' (b' + m)).toInt (vl' (b' + m)).toInt :: mkr kd' vl' b' m = mEn (kd (b + m)).toInt (vl (b + m)).toInt :: mkr kd vl b m
    rw [(h m (by omega)).1, (h m (by omega)).2, mkr_sh (fun i hi => h i (by omega))]
theorem mL_0 {w : Int} {G : gS} (h : (G 12 w.toNat).toInt = 0) : mL w G = [] := by
  unfold mL
  rw [h]
  rfl
theorem mL_kp {w : Int} {G G' : gS} (h0 : 0 ≤ w) (h2 : w ≤ 2) (h : yKp G G') (hb : 0 ≤ (G 12 w.toNat).toInt ∧ (G 12 w.toNat).toInt ≤ 80) : mL w G' = mL w G := by
  unfold mL
  rw [h.2 w.toNat (by omega)]
  exact mkr_ext (fun i i1 i2 => h.1 i (by omega))
theorem yMk.mo {k v : Int32} {w j : Int} {G G' : gS} (h : yMk k v w G G') (hw : 0 ≤ w) (hj : 0 ≤ j) (hn : j ≠ w) (hb : 0 ≤ (G 12 w.toNat).toInt ∧ (G 12 w.toNat).toInt ≤ 79) (hb2 : 0 ≤ (G 12 j.toNat).toInt ∧ (G 12 j.toNat).toInt ≤ 80) : mL j G' = mL j G := by
  obtain ⟨a1, a2, a3, a4⟩ := h
  unfold mL
  rw [a2 j.toNat (by omega)]
  exact mkr_ext (fun i i1 i2 => a3 i (by omega))
/-- the sums below w were taken over out of G0 -/
def yTe (w : Int) (G0 G : gS) : Prop := (∀ i : Nat, 240 ≤ i → G 10 i = G0 10 i ∧ G 11 i = G0 11 i) ∧ (∀ q : Nat, 3 ≤ q → G 12 q = G0 12 q) ∧ ∀ v : Int, 0 ≤ v → v < w → mL v G = mL (3 + v) G0
def yTf (w k : Int) (G0 G : gS) : Prop := yTe w G0 G ∧ G 12 w.toNat = G0 12 (3 + w).toNat ∧ ∀ i : Int, 0 ≤ i → i < k → G 10 (80 * w + i).toNat = G0 10 (80 * (3 + w) + i).toNat ∧ G 11 (80 * w + i).toNat = G0 11 (80 * (3 + w) + i).toNat
theorem yTe.at0 {G0 G : gS} {L : List Nat} (hU : gu_un ycd L G0 G) (hL : (L.contains 1000 || L.contains 1100 || L.contains 1200) = false) : yTe 0 G0 G := by
  obtain ⟨e1, e2, e3⟩ := y_un hU hL
  exact ⟨fun i _ => ⟨congrFun e1 i, congrFun e2 i⟩, fun q _ => congrFun e3 q, fun v h1 h2 => by omega⟩
theorem yTf.at0 {w : Int} {G0 G : gS} {x : Int32} (h : yTe w G0 G) (h0 : 0 ≤ w) (h2 : w ≤ 2) (hx : x = G 12 (3 + w).toNat) : yTf w 0 G0 (gu_up G 12 w.toNat x) := by
  obtain ⟨a1, a2, a3⟩ := h
  refine ⟨⟨a1, fun q hq => ?_, fun v h3 h4 => ?_⟩, ?_, fun i h3 h4 => by omega⟩
  · show upd (G 12) w.toNat x q = _
    rw [show upd (G 12) w.toNat x q = G 12 q from if_neg (by omega)]
    exact a2 q hq
  · rw [← a3 v h3 h4]
    show mkr (G 10) (G 11) (80 * v).toNat (upd (G 12) w.toNat x v.toNat).toInt.toNat = _
    rw [show upd (G 12) w.toNat x v.toNat = G 12 v.toNat from if_neg (by omega)]
    rfl
  · show upd (G 12) w.toNat x w.toNat = _
    rw [show upd (G 12) w.toNat x w.toNat = x from if_pos rfl, hx]
    exact a2 _ (by omega)
theorem yTf.step {w k i1 i2 y : Int} {G0 G : gS} {x1 x2 : Int32} (h : yTf w k G0 G) (hI : yI G) (h0 : 0 ≤ w) (h2 : w ≤ 2) (k0 : 0 ≤ k) (k8 : k < 80) (e1 : i1 = 80 * w + k) (e2 : i2 = 80 * w + k) (hx1 : x1 = G 10 (80 * (3 + w) + k).toNat) (hx2 : x2 = G 11 (80 * (3 + w) + k).toNat) (hy : y = k + 1) : yTf w y G0 (gu_up (gu_up G 10 i1.toNat x1) 11 i2.toNat x2) := by
  subst e1 e2 hy
  obtain ⟨⟨a1, a2, a3⟩, b1, b2⟩ := h
  have n10 : ∀ i : Nat, i ≠ (80 * w + k).toNat → (gu_up (gu_up G 10 (80 * w + k).toNat x1) 11 (80 * w + k).toNat x2) 10 i = G 10 i := fun i hi => show upd (G 10) (80 * w + k).toNat x1 i = _ from if_neg hi
  have n11 : ∀ i : Nat, i ≠ (80 * w + k).toNat → (gu_up (gu_up G 10 (80 * w + k).toNat x1) 11 (80 * w + k).toNat x2) 11 i = G 11 i := fun i hi => show upd (G 11) (80 * w + k).toNat x2 i = _ from if_neg hi
  refine ⟨⟨fun i hi => ?_, a2, fun v h3 h4 => ?_⟩, b1, fun i h3 h4 => ?_⟩
  · rw [n10 i (by omega), n11 i (by omega)]
    exact a1 i hi
  · rw [← a3 v h3 h4]
    have hb : (0 : Int) ≤ (G 12 v.toNat).toInt ∧ (G 12 v.toNat).toInt ≤ 80 := hI 12 v.toNat
    show mkr _ _ (80 * v).toNat (G 12 v.toNat).toInt.toNat = mkr _ _ (80 * v).toNat (G 12 v.toNat).toInt.toNat
    exact mkr_ext (fun i i1 i2 => ⟨n10 i (by omega), n11 i (by omega)⟩)
  · by_cases e : i = k
    · subst e
      rw [show (gu_up (gu_up G 10 (80 * w + i).toNat x1) 11 (80 * w + i).toNat x2) 10 (80 * w + i).toNat = x1 from (if_pos rfl : upd (G 10) (80 * w + i).toNat x1 (80 * w + i).toNat = x1), show (gu_up (gu_up G 10 (80 * w + i).toNat x1) 11 (80 * w + i).toNat x2) 11 (80 * w + i).toNat = x2 from (if_pos rfl : upd (G 11) (80 * w + i).toNat x2 (80 * w + i).toNat = x2), hx1, hx2]
      exact a1 _ (by omega)
    · rw [n10 _ (by omega), n11 _ (by omega)]
      exact b2 i h3 (by omega)
theorem yTf.fin {w k y : Int} {G0 G : gS} (h : yTf w k G0 G) (h0 : 0 ≤ w) (h2 : w ≤ 2) (hn : 0 ≤ (G 12 w.toNat).toInt) (hk : (G 12 w.toNat).toInt ≤ k) (hy : y = w + 1) : yTe y G0 G := by
  subst hy
  obtain ⟨⟨a1, a2, a3⟩, b1, b2⟩ := h
  refine ⟨a1, a2, fun v h3 h4 => ?_⟩
  by_cases e : v = w
  · subst e
    unfold mL
    rw [← b1]
    refine mkr_sh (fun i hi => ?_)
    have h9 := b2 (i : Int) (by omega) (by omega)
    rw [show (80 * v).toNat + i = (80 * v + (i : Int)).toNat by omega, show (80 * (3 + v)).toNat + i = (80 * (3 + v) + (i : Int)).toNat by omega]
    exact h9
  · exact a3 v h3 (by omega)
theorem yNu.sm {c w n : Int} {nu : Nat → Int32} {sg : Nat → sSt} {G G1 G2 : gS} {i : Nat} (hw : w = 3 + (i : Int)) (h : ySg c w G1 G2) (e10 : G1 10 = G 10) (e11 : G1 11 = G 11) (e12 : ∀ q : Nat, q ≠ w.toNat → G1 12 q = G 12 q) (h0 : 0 ≤ (G1 12 w.toNat).toInt) (hI : yI G) (e4 : G2 4 = G 4) (e6 : G2 6 = G 6) (e8 : G2 8 = G 8) (hN : yNu nu sg G) : yNu nu (updS sg i (0, [], 0, 0, n, mL w G2)) G2 := by
  unfold yNu
  rw [e4, e6, e8]
  refine yNf.sum hN (fun j hj hn => ?_) (by unfold yMq; rw [hw])
  have hb : (0 : Int) ≤ (G 12 (3 + (j : Int)).toNat).toInt ∧ (G 12 (3 + (j : Int)).toNat).toInt ≤ 80 := hI 12 _
  have e : G1 12 (3 + (j : Int)).toNat = G 12 (3 + (j : Int)).toNat := e12 _ (by omega)
  show mL (3 + (j : Int)) G2 = mL (3 + (j : Int)) G
  rw [ySg.mo h (by omega) (by omega) (by omega) h0 (by rw [e]; exact hb)]
  unfold mL
  rw [e10, e11, e]
theorem y_td {f : Nat → Int32} {c q : Nat} : (upd f c (vp_nar .boolean 1) q).toInt = if q = c then 1 else (f q).toInt := by
  unfold upd
  by_cases e : q = c
  · rw [if_pos e, if_pos e]
    rfl
  · rw [if_neg e, if_neg e]
theorem yPn_mk {G G1 G2 G3 G4 G5 G6 : gS} {L1 L2 L3 : List Nat} (z : ∀ q : Nat, 3 ≤ q → q < 6 → (G 12 q).toInt = 0) (u1 : gu_un ycd L1 G G1) (c1 : (L1.contains 1000 || L1.contains 1100 || L1.contains 1200) = false) (m1 : yMk 1 0 3 G1 G2) (u2 : gu_un ycd L2 G2 G3) (c2 : (L2.contains 1000 || L2.contains 1100 || L2.contains 1200) = false) (m2 : yMk 0 0 4 G3 G4) (u3 : gu_un ycd L3 G4 G5) (c3 : (L3.contains 1000 || L3.contains 1100 || L3.contains 1200) = false) (m3 : yMk 0 0 5 G5 G6) : mL 3 G6 = [-1] ∧ mL 4 G6 = [0] ∧ mL 5 G6 = [0] := by
  have a1 := (y_un u1 c1).2.2
  have a2 := (y_un u2 c2).2.2
  have a3 := (y_un u3 c3).2.2
  have z3 : (G1 12 3).toInt = 0 := by rw [a1]; exact z 3 (by decide) (by decide)
  have z4 : (G1 12 4).toInt = 0 := by rw [a1]; exact z 4 (by decide) (by decide)
  have z5 : (G1 12 5).toInt = 0 := by rw [a1]; exact z 5 (by decide) (by decide)
  have b3 : (G3 12 3).toInt = 1 := by rw [a2, show (G2 12 3).toInt = (G1 12 3).toInt + 1 from m1.1, z3]; rfl
  have b4 : (G3 12 4).toInt = 0 := by rw [a2, m1.2.1 4 (by decide)]; exact z4
  have b5 : (G3 12 5).toInt = 0 := by rw [a2, m1.2.1 5 (by decide)]; exact z5
  have d3 : (G5 12 3).toInt = 1 := by rw [a3, m2.2.1 3 (by decide)]; exact b3
  have d4 : (G5 12 4).toInt = 1 := by rw [a3, show (G4 12 4).toInt = (G3 12 4).toInt + 1 from m2.1, b4]; rfl
  have d5 : (G5 12 5).toInt = 0 := by rw [a3, m2.2.1 5 (by decide)]; exact b5
  have l3 : mL 3 G2 = [-1] := by rw [m1.ml (by decide) (by show (0 : Int) ≤ (G1 12 3).toInt; omega), mL_0 z3]; rfl
  have l4 : mL 4 G4 = [0] := by rw [m2.ml (by decide) (by show (0 : Int) ≤ (G3 12 4).toInt; omega), mL_0 b4]; rfl
  have l5 : mL 5 G6 = [0] := by rw [m3.ml (by decide) (by show (0 : Int) ≤ (G5 12 5).toInt; omega), mL_0 d5]; rfl
  refine ⟨?_, ?_, l5⟩
  · rw [m3.mo (by decide) (by decide) (by decide) (by show (0 : Int) ≤ (G5 12 5).toInt ∧ (G5 12 5).toInt ≤ 79; omega) (by show (0 : Int) ≤ (G5 12 3).toInt ∧ (G5 12 3).toInt ≤ 80; omega), mL_un u3 c3, m2.mo (by decide) (by decide) (by decide) (by show (0 : Int) ≤ (G3 12 4).toInt ∧ (G3 12 4).toInt ≤ 79; omega) (by show (0 : Int) ≤ (G3 12 3).toInt ∧ (G3 12 3).toInt ≤ 80; omega), mL_un u2 c2]
    exact l3
  · rw [m3.mo (by decide) (by decide) (by decide) (by show (0 : Int) ≤ (G5 12 5).toInt ∧ (G5 12 5).toInt ≤ 79; omega) (by show (0 : Int) ≤ (G5 12 4).toInt ∧ (G5 12 4).toInt ≤ 80; omega), mL_un u3 c3]
    exact l4
