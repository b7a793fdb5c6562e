/-! the order of the jobs that leaves least: the least sum so far (-1: none) and its row -/
abbrev orS := Int × (Nat → Int32)
def orFold (F : Nat → orS → orS) : Nat → orS → orS
  | 0, b => b
  | j + 1, b => F j (orFold F j b)
/-- the j-th job on the heights h -/
def orP (Q : gS) (C : Nat → List Int) (J : gS) (st da : Int32) (h : Nat → Int32) (w : Int32) (j : Nat) : gS := pvS Q C h w (J 0 j).toInt (J 1 j) (J 2 j) (J 3 j) st da
def orOk (Q : gS) (C : Nat → List Int) (J : gS) (st da : Int32) (h : Nat → Int32) (w u : Int32) (j : Nat) : Prop := ((u >>> (Int32.ofInt (j : Int) &&& 31)) &&& 1).toInt = 0 ∧ pvOk Q h (J 0 j).toInt (J 2 j).toInt (J 3 j).toInt ∧ pvV Q (orP Q C J st da h w j) = 0
noncomputable def orT (Q : gS) (C : Nat → List Int) (J : gS) (m : Nat) (st da : Int32) : Nat → (Nat → Int32) → Int32 → Int32 → Int → (Nat → Int32) → orS → orS
  | 0, _, _, _, s, row, b => if b.1 = -1 ∨ s < b.1 then (s, row) else b
  | n + 1, h, w, u, s, row, b => orFold (fun j b => @ite orS (orOk Q C J st da h w u j) (Classical.propDecidable _) (orT Q C J m st da n (sHr h (orP Q C J st da h w j 0) (J 0 j).toInt (Q 0 0).toInt) (orP Q C J st da h w j 4 0) (u ||| ((1 : Int32) <<< (Int32.ofInt (j : Int) &&& 31))) (s + pvW Q (orP Q C J st da h w j)) (upd row (m - (n + 1)) (Int32.ofInt (j : Int))) b) b) m b
noncomputable def orF (Q : gS) (C : Nat → List Int) (J : gS) (m : Nat) (st da : Int32) (n : Nat) (h : Nat → Int32) (w u : Int32) (s : Int) (row : Nat → Int32) (j : Nat) (b : orS) : orS := @ite orS (orOk Q C J st da h w u j) (Classical.propDecidable _) (orT Q C J m st da n (sHr h (orP Q C J st da h w j 0) (J 0 j).toInt (Q 0 0).toInt) (orP Q C J st da h w j 4 0) (u ||| ((1 : Int32) <<< (Int32.ofInt (j : Int) &&& 31))) (s + pvW Q (orP Q C J st da h w j)) (upd row (m - (n + 1)) (Int32.ofInt (j : Int))) b) b
def orE (m : Nat) (b b' : orS) : Prop := b.1 = b'.1 ∧ (b.1 ≠ -1 → ∀ k : Nat, k < m → b.2 k = b'.2 k)
section OR
variable {Q : gS} {C : Nat → List Int} {J : gS} {m : Nat} {st da : Int32}
theorem orE.rf {b : orS} : orE m b b := ⟨rfl, fun _ _ _ => rfl⟩
theorem orE.tr {a b c : orS} (h : orE m a b) (g : orE m b c) : orE m a c := ⟨h.1.trans g.1, fun x k hk => (h.2 x k hk).trans (g.2 (fun z => x (h.1.trans z)) k hk)⟩
theorem orE.sy {a b : orS} (h : orE m a b) : orE m b a := ⟨h.1.symm, fun x k hk => (h.2 (fun z => x (h.1 ▸ z)) k hk).symm⟩
theorem orT_s {n : Nat} {h : Nat → Int32} {w u : Int32} {s : Int} {row : Nat → Int32} {b : orS} : orT Q C J m st da (n + 1) h w u s row b = orFold (orF Q C J m st da n h w u s row) m b := rfl
theorem orF_y {n j : Nat} {h : Nat → Int32} {w u : Int32} {s : Int} {row : Nat → Int32} {b : orS} (c : orOk Q C J st da h w u j) : orF Q C J m st da n h w u s row j b = orT Q C J m st da n (sHr h (orP Q C J st da h w j 0) (J 0 j).toInt (Q 0 0).toInt) (orP Q C J st da h w j 4 0) (u ||| ((1 : Int32) <<< (Int32.ofInt (j : Int) &&& 31))) (s + pvW Q (orP Q C J st da h w j)) (upd row (m - (n + 1)) (Int32.ofInt (j : Int))) b := if_pos c
theorem orF_n {n j : Nat} {h : Nat → Int32} {w u : Int32} {s : Int} {row : Nat → Int32} {b : orS} (c : ¬ orOk Q C J st da h w u j) : orF Q C J m st da n h w u s row j b = b := if_neg c
theorem orFold_E {F F' : Nat → orS → orS} : ∀ {n : Nat} {b b' : orS}, (∀ j : Nat, j < n → ∀ b b' : orS, orE m b b' → orE m (F j b) (F' j b')) → orE m b b' → orE m (orFold F n b) (orFold F' n b')
  | 0, _, _, _, h => h
  | n + 1, _, _, hF, h => hF n (by omega) _ _ (orFold_E (fun j hj => hF j (by omega)) h)
theorem orT_E (hJ : ∀ j : Nat, j < m → 0 ≤ (J 0 j).toInt ∧ (J 0 j).toInt ≤ 5) (hn : (Q 0 1).toInt ≤ 6) (hs : (Q 0 0).toInt ≤ 16) : ∀ (n : Nat), n ≤ m → ∀ (h g : Nat → Int32) (w u : Int32) (s : Int) (row row' : Nat → Int32) (b b' : orS), (∀ q : Nat, q < 96 → h q = g q) → (∀ k : Nat, k < m - n → row k = row' k) → orE m b b' → orE m (orT Q C J m st da n h w u s row b) (orT Q C J m st da n g w u s row' b')
  | 0, _, h, g, w, u, s, row, row', b, b', eh, er, eb => by
    show orE m (if b.1 = -1 ∨ s < b.1 then (s, row) else b) (if b'.1 = -1 ∨ s < b'.1 then (s, row') else b')
    rw [← eb.1]
    by_cases c : b.1 = -1 ∨ s < b.1
    · rw [if_pos c, if_pos c]
      exact ⟨rfl, fun _ k hk => er k hk⟩
    · rw [if_neg c, if_neg c]
      exact eb
  | n + 1, hnm, h, g, w, u, s, row, row', b, b', eh, er, eb => by
    rw [orT_s, orT_s]
    refine orFold_E (fun j hj c c' ec => ?_) eb
    obtain ⟨j0, j1⟩ := hJ j hj
    have eP : orP Q C J st da h w j = orP Q C J st da g w j := pvS_eq eh j0 j1 hn hs
    have eO : orOk Q C J st da h w u j = orOk Q C J st da g w u j := by
      unfold orOk
      rw [eP, pvOk_eq eh j0 j1 hs]
    by_cases o : orOk Q C J st da h w u j
    · rw [orF_y o, orF_y (eO ▸ o), eP]
      refine orT_E hJ hn hs n (by omega) _ _ _ _ _ _ _ _ _ (sHr_eq eh) (fun k hk => ?_) ec
      unfold upd
      by_cases e : k = m - (n + 1)
      · rw [if_pos e, if_pos e]
      · rw [if_neg e, if_neg e]
        exact er k (by omega)
    · rw [orF_n o, orF_n (eO ▸ o)]
      exact ec
theorem pvW_nn {S : gS} : 0 ≤ pvW Q S := by
  have h : ∀ (f : Nat → Int32) (n : Nat), psMn f n ≤ psMx f n := fun f n => by
    induction n with
    | zero => exact Int.le_refl _
    | succ n ih =>
      show min (psMn f n) _ ≤ max (psMx f n) _
      omega
  have k := h (S 0) ((Q 0 0).toInt - 1).toNat
  unfold pvW
  omega
theorem orFold_id {F : Nat → orS → orS} {b : orS} (h : ∀ j : Nat, F j b = b) : ∀ n : Nat, orFold F n b = b
  | 0 => rfl
  | n + 1 => by
    show F n (orFold F n b) = b
    rw [orFold_id h n]
    exact h n
/-- what can't be less is not gone into -/
theorem orT_prune : ∀ (n : Nat) (h : Nat → Int32) (w u : Int32) (s : Int) (row : Nat → Int32) (b : orS), b.1 ≠ -1 → b.1 ≤ s → orT Q C J m st da n h w u s row b = b
  | 0, _, _, _, s, row, b, h1, h2 => by
    show (if b.1 = -1 ∨ s < b.1 then (s, row) else b) = b
    rw [if_neg (by omega)]
  | n + 1, h, w, u, s, row, b, h1, h2 => by
    rw [orT_s]
    refine orFold_id (fun j => ?_) m
    by_cases o : orOk Q C J st da h w u j
    · rw [orF_y o]
      have k := pvW_nn (Q := Q) (S := orP Q C J st da h w j)
      exact orT_prune n _ _ _ _ _ _ h1 (by omega)
    · exact orF_n o
end OR
/-- the jobs of both sides, the best of both sides -/
def xJ (G : gS) : gS := fun i => if i = 0 then G 54 else if i = 1 then G 55 else if i = 2 then G 56 else G 57
def yJ (G : gS) : gS := fun i => if i = 0 then G 28 else if i = 1 then G 29 else if i = 2 then G 30 else G 31
def orV (Q J : gS) (m : Nat) : Prop := ∀ j : Nat, j < m → pvAs Q (J 0 j).toInt (J 1 j) (J 2 j) (J 3 j)
def xBs (G : gS) : orS := ((G 8 9).toInt, G 67)
def orB (x : Int) : Int := if x = 1000000000 then -1 else x
def yBs (G : gS) : orS := (orB (G 0 46).toInt, G 33)
theorem orB_v {x : Int} : (x = 1000000000 ∧ orB x = -1) ∨ (x ≠ 1000000000 ∧ orB x = x) := by
  unfold orB
  by_cases c : x = 1000000000
  · exact Or.inl ⟨c, if_pos c⟩
  · exact Or.inr ⟨c, if_neg c⟩
theorem xJ.un {G G' : gS} {L : List Nat} (hU : gu_un xcd L G G') (hL : gNo L [5400, 5500, 5600, 5700] = false) : xJ G' = xJ G := by
  unfold xJ
  rw [show G' 54 = G 54 from funext fun k => hU 54 k (gNo.at hL (n := 5400) (by decide)), show G' 55 = G 55 from funext fun k => hU 55 k (gNo.at hL (n := 5500) (by decide)), show G' 56 = G 56 from funext fun k => hU 56 k (gNo.at hL (n := 5600) (by decide)), show G' 57 = G 57 from funext fun k => hU 57 k (gNo.at hL (n := 5700) (by decide))]
theorem yJ.un {G G' : gS} {L : List Nat} (hU : gu_un ycd L G G') (hL : gNo L [2800, 2900, 3000, 3100] = false) : yJ G' = yJ G := by
  unfold yJ
  rw [show G' 28 = G 28 from funext fun k => hU 28 k (gNo.at hL (n := 2800) (by decide)), show G' 29 = G 29 from funext fun k => hU 29 k (gNo.at hL (n := 2900) (by decide)), show G' 30 = G 30 from funext fun k => hU 30 k (gNo.at hL (n := 3000) (by decide)), show G' 31 = G 31 from funext fun k => hU 31 k (gNo.at hL (n := 3100) (by decide))]
theorem xBs.un {G G' : gS} {L : List Nat} (hU : gu_un xcd L G G') (hL : gNo L [810, 6700] = false) : xBs G' = xBs G := by
  unfold xBs
  rw [show G' 67 = G 67 from funext fun k => hU 67 k (gNo.at hL (n := 6700) (by decide)), show G' 8 9 = G 8 9 from hU 8 9 (gNo.at hL (n := 810) (by decide))]
theorem yBs.un {G G' : gS} {L : List Nat} (hU : gu_un ycd L G G') (hL : gNo L [47, 3300] = false) : yBs G' = yBs G := by
  unfold yBs
  rw [show G' 33 = G 33 from funext fun k => hU 33 k (gNo.at hL (n := 3300) (by decide)), show G' 0 46 = G 0 46 from hU 0 46 (gNo.at hL (n := 47) (by decide))]
section OG
variable {Q : gS} {C : Nat → List Int} {J : gS} {m n d : Nat} {st da w u w1 u1 : Int32} {h h1 row row1 : Nat → Int32} {s s1 : Int} {b b0 b1 : orS} {x y : Int}
/-- a job that isn't taken -/
theorem or_no (hE : orE m b0 (orFold (orF Q C J m st da n h w u s row) x.toNat b)) (o : ¬ orOk Q C J st da h w u x.toNat) (h0 : 0 ≤ x) (hy : y = x + 1) : orE m b0 (orFold (orF Q C J m st da n h w u s row) y.toNat b) := by
  rw [show y.toNat = x.toNat + 1 by omega]
  show orE m b0 (orF Q C J m st da n h w u s row x.toNat _)
  rw [orF_n o]
  exact hE
/-- a job that can't become less -/
theorem or_pr (hE : orE m b0 (orFold (orF Q C J m st da n h w u s row) x.toNat b)) (h1 : b0.1 ≠ -1) (h2 : b0.1 ≤ s + pvW Q (orP Q C J st da h w x.toNat)) (h0 : 0 ≤ x) (hy : y = x + 1) : orE m b0 (orFold (orF Q C J m st da n h w u s row) y.toNat b) := by
  by_cases o : orOk Q C J st da h w u x.toNat
  · rw [show y.toNat = x.toNat + 1 by omega]
    show orE m b0 (orF Q C J m st da n h w u s row x.toNat _)
    rw [orF_y o, orT_prune _ _ _ _ _ _ _ (fun z => h1 (hE.1.trans z)) (by rw [← hE.1]; exact h2)]
    exact hE
  · exact or_no hE o h0 hy
/-- a job that is gone into -/
theorem or_go (hJ : orV Q J m) (hn : (Q 0 1).toInt ≤ 6) (hs : (Q 0 0).toInt ≤ 16) (hE : orE m b0 (orFold (orF Q C J m st da n h w u s row) x.toNat b)) (o : orOk Q C J st da h w u x.toNat) (hm : n + d + 1 = m) (c : orE m b1 (orT Q C J m st da n h1 w1 u1 s1 row1 b0)) (eh : ∀ q : Nat, q < 96 → h1 q = sHr h (orP Q C J st da h w x.toNat 0) (J 0 x.toNat).toInt (Q 0 0).toInt q) (ew : w1 = orP Q C J st da h w x.toNat 4 0) (eu : u1 = u ||| ((1 : Int32) <<< (Int32.ofInt ((x.toNat : Nat) : Int) &&& 31))) (es : s1 = s + pvW Q (orP Q C J st da h w x.toNat)) (er : ∀ k : Nat, k < d → row1 k = row k) (ed : row1 d = Int32.ofInt ((x.toNat : Nat) : Int)) (h0 : 0 ≤ x) (hy : y = x + 1) : orE m b1 (orFold (orF Q C J m st da n h w u s row) y.toNat b) := by
  rw [show y.toNat = x.toNat + 1 by omega]
  show orE m b1 (orF Q C J m st da n h w u s row x.toNat _)
  rw [orF_y o]
  have hJ2 : ∀ j : Nat, j < m → 0 ≤ (J 0 j).toInt ∧ (J 0 j).toInt ≤ 5 := fun j hj => ⟨(hJ j hj).1, by have z := (hJ j hj).2.1; omega⟩
  refine c.tr ?_
  rw [ew, eu, es]
  refine orT_E hJ2 hn hs n (by omega) _ _ _ _ _ _ _ _ _ eh (fun k hk => ?_) hE
  unfold upd
  by_cases e : k = d
  · rw [if_pos (show k = m - (n + 1) by omega), e]
    exact ed
  · rw [if_neg (show ¬ k = m - (n + 1) by omega)]
    exact er k (by omega)
end OG
theorem or_h {x f h : Nat → Int32} {S Q : gS} {r r' n : Int} (hx : ∀ q : Nat, q < 96 → x q = h q) (hf : ∀ i : Nat, (i : Int) < (Q 0 0).toInt → S 0 i = f i) (er : r = r') (en : n = (Q 0 0).toInt) : ∀ q : Nat, q < 96 → sHr x f r n q = sHr h (S 0) r' (Q 0 0).toInt q := fun q hq => by
  unfold sHr
  rw [er, en]
  by_cases c : 16 * r' ≤ (q : Int) ∧ (q : Int) < 16 * r' + (Q 0 0).toInt
  · rw [if_pos c, if_pos c]
    exact (hf _ (by omega)).symm
  · rw [if_neg c, if_neg c]
    exact hx q hq
/-- what an order answers: 0 jobs; none; the least, and its row -/
def orR (Q : gS) (C : Nat → List Int) (J : gS) (m : Nat) (st da : Int32) (h : Nat → Int32) (w : Int32) (r : Int) (B : orS) : Prop := (m = 0 ∧ r = -4 ∧ B.1 = -1) ∨ (m ≠ 0 ∧ r = B.1 ∧ ∃ row f : Nat → Int32, orE m B (orT Q C J m st da m h w 0 0 row (-1, f)))
theorem orT_f {Q : gS} {C : Nat → List Int} {J : gS} {m : Nat} {st da : Int32} {h g : Nat → Int32} {w : Int32} {row row' f f' : Nat → Int32} (hJ : orV Q J m) (hn : (Q 0 1).toInt ≤ 6) (hs : (Q 0 0).toInt ≤ 16) (e : ∀ q : Nat, q < 96 → h q = g q) : orE m (orT Q C J m st da m h w 0 0 row (-1, f)) (orT Q C J m st da m g w 0 0 row' (-1, f')) := orT_E (fun j hj => ⟨(hJ j hj).1, by have z := (hJ j hj).2.1; omega⟩) hn hs m (Nat.le_refl _) _ _ _ _ _ _ _ _ _ e (fun k hk => by omega) ⟨rfl, fun z => absurd rfl z⟩
theorem orR.uniq {Q : gS} {C : Nat → List Int} {J : gS} {m : Nat} {st da : Int32} {h g : Nat → Int32} {w : Int32} {r r2 : Int} {B B2 : orS} (hJ : orV Q J m) (hn : (Q 0 1).toInt ≤ 6) (hs : (Q 0 0).toInt ≤ 16) (e : ∀ q : Nat, q < 96 → h q = g q) (x : orR Q C J m st da h w r B) (y : orR Q C J m st da g w r2 B2) : r = r2 ∧ orE m B B2 := by
  rcases x with ⟨x1, x2, x3⟩ | ⟨x1, x2, row, f, x3⟩ <;> rcases y with ⟨y1, y2, y3⟩ | ⟨y1, y2, row', f', y3⟩
  · exact ⟨by omega, by omega, fun z => absurd x3 z⟩
  · exact absurd x1 y1
  · exact absurd y1 x1
  · have z : orE m B B2 := (x3.tr (orT_f hJ hn hs e)).tr y3.sy
    exact ⟨by rw [x2, y2]; exact z.1, z⟩
theorem orFold_c {F F' : Nat → orS → orS} : ∀ {n : Nat} {b : orS}, (∀ j : Nat, j < n → ∀ b : orS, F j b = F' j b) → orFold F n b = orFold F' n b
  | 0, _, _ => rfl
  | n + 1, b, h => by
    show F n (orFold F n b) = F' n (orFold F' n b)
    rw [orFold_c (fun j hj => h j (by omega)), h n (by omega)]
/-- only the jobs that are there count -/
theorem orT_J {Q : gS} {C : Nat → List Int} {J J' : gS} {m : Nat} {st da : Int32} (e : ∀ j : Nat, j < m → J 0 j = J' 0 j ∧ J 1 j = J' 1 j ∧ J 2 j = J' 2 j ∧ J 3 j = J' 3 j) : ∀ (n : Nat) (h : Nat → Int32) (w u : Int32) (s : Int) (row : Nat → Int32) (b : orS), orT Q C J m st da n h w u s row b = orT Q C J' m st da n h w u s row b
  | 0, _, _, _, _, _, _ => rfl
  | n + 1, h, w, u, s, row, b => by
    rw [orT_s, orT_s]
    refine orFold_c (fun j hj c => ?_)
    obtain ⟨e0, e1, e2, e3⟩ := e j hj
    have eP : orP Q C J st da h w j = orP Q C J' st da h w j := by
      unfold orP
      rw [e0, e1, e2, e3]
    have eO : orOk Q C J st da h w u j = orOk Q C J' st da h w u j := by
      unfold orOk
      rw [eP, e0, e2, e3]
    by_cases o : orOk Q C J st da h w u j
    · rw [orF_y o, orF_y (eO ▸ o), eP, e0]
      exact orT_J e n _ _ _ _ _ _
    · rw [orF_n o, orF_n (eO ▸ o)]
theorem orR.toJ {Q : gS} {C : Nat → List Int} {J J' : gS} {m : Nat} {st da : Int32} {h : Nat → Int32} {w : Int32} {r : Int} {B : orS} (e : ∀ j : Nat, j < m → J 0 j = J' 0 j ∧ J 1 j = J' 1 j ∧ J 2 j = J' 2 j ∧ J 3 j = J' 3 j) (x : orR Q C J m st da h w r B) : orR Q C J' m st da h w r B := by
  rcases x with x | ⟨x1, x2, row, f, x3⟩
  · exact Or.inl x
  · exact Or.inr ⟨x1, x2, row, f, by rw [← orT_J e]; exact x3⟩
