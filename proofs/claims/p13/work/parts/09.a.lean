/-! the class's parser: what waits in a formula -/
/-- of the first n that wait: how many are open, how many parentheses, what stands on top: 0 an opening or nothing, -1 a minus of a factor, else how strongly it binds; none: no such row comes about -/
def wqf (wt : Nat → Int32) : Nat → Option (Int × Int × Int)
  | 0 => some (0, 0, 0)
  | m + 1 => match wqf wt m with
    | none => none
    | some (o, p, t) => if (wt m).toInt = 40 then some (o + 1, p + 1, 0) else if (wt m).toInt = -3 then some (o + 1, p, -1) else if 0 ≤ t ∧ t < xsg (wt m).toInt then some (o, p, xsg (wt m).toInt) else none
def xQ (wt : Nat → Int32) (n o p t : Int) : Prop := 0 ≤ n ∧ wqf wt n.toNat = some (o, p, t)
theorem wqf_le {wt : Nat → Int32} : ∀ {m : Nat} {o p t : Int}, wqf wt m = some (o, p, t) → (0 ≤ t → (m : Int) ≤ 3 * o + t) ∧ (t = -1 → (m : Int) ≤ 3 * o) ∧ 0 ≤ p ∧ p ≤ o ∧ -1 ≤ t ∧ t ≤ 2
  | 0, o, p, t, h => by
    cases h
    omega
  | m + 1, o, p, t, h => by
    unfold wqf at h
    cases hm : wqf wt m with
    | none => rw [hm] at h; cases h
    | some q =>
      obtain ⟨o1, p1, t1⟩ := q
      have ih := wqf_le hm
      have hs := xsg_le (wt m).toInt
      rw [hm] at h
      simp only at h
      split at h
      · cases h; omega
      · split at h
        · cases h; omega
        · split at h
          · cases h; omega
          · cases h
theorem xQ.le {wt : Nat → Int32} {n o p t : Int} (h : xQ wt n o p t) : n ≤ 3 * o + 2 ∧ 0 ≤ p ∧ p ≤ o ∧ -1 ≤ t ∧ t ≤ 2 ∧ 0 ≤ n := by
  have h1 := wqf_le h.2
  have h2 := h.1
  omega
theorem xQ.at0 {wt : Nat → Int32} : xQ wt 0 0 0 0 := ⟨by omega, rfl⟩
theorem xQ.zero {wt : Nat → Int32} {n o p t : Int} (h : xQ wt n o p t) (hn : n ≤ 0) : o = 0 ∧ p = 0 ∧ t = 0 := by
  have h1 := h.2
  rw [show n.toNat = 0 by have := h.1; omega] at h1
  cases h1
  exact ⟨rfl, rfl, rfl⟩
theorem wqf_ext {wt wt' : Nat → Int32} : ∀ {m : Nat}, (∀ i : Nat, i < m → wt' i = wt i) → wqf wt' m = wqf wt m
  | 0, _ => rfl
  | m + 1, h => by
    have h1 := wqf_ext (m := m) (fun i hi => h i (by omega))
    have h2 := h m (by omega)
    unfold wqf
    rw [h1, h2]
/-- what stands on top -/
theorem xQ.pop {wt : Nat → Int32} {n o p t : Int} (h : xQ wt n o p t) (hn : 1 ≤ n) : ((wt (n - 1).toNat).toInt = 40 ∧ t = 0 ∧ ∃ t', xQ wt (n - 1) (o - 1) (p - 1) t') ∨ ((wt (n - 1).toNat).toInt = -3 ∧ t = -1 ∧ ∃ t', xQ wt (n - 1) (o - 1) p t') ∨ ((wt (n - 1).toNat).toInt ≠ 40 ∧ (wt (n - 1).toNat).toInt ≠ -3 ∧ t = xsg (wt (n - 1).toNat).toInt ∧ ∃ t', xQ wt (n - 1) o p t' ∧ 0 ≤ t' ∧ t' < t) := by
  have h1 := h.2
  rw [show n.toNat = (n - 1).toNat + 1 by omega] at h1
  unfold wqf at h1
  cases hm : wqf wt (n - 1).toNat with
  | none => rw [hm] at h1; cases h1
  | some q =>
    obtain ⟨o1, p1, t1⟩ := q
    rw [hm] at h1
    simp only at h1
    split at h1
    · rename_i e
      left
      cases h1
      exact ⟨e, rfl, t1, by omega, by rw [hm, show o1 + 1 - 1 = o1 by omega, show p1 + 1 - 1 = p1 by omega]⟩
    · rename_i e0
      split at h1
      · rename_i e
        right; left
        cases h1
        exact ⟨e, rfl, t1, by omega, by rw [hm, show o1 + 1 - 1 = o1 by omega]⟩
      · rename_i e1
        split at h1
        · rename_i e
          right; right
          cases h1
          exact ⟨e0, e1, rfl, t1, ⟨by omega, hm⟩, e.1, e.2⟩
        · cases h1
theorem xQ.popS {wt : Nat → Int32} {n o p t : Int} (h : xQ wt n o p t) (hn : 1 ≤ n) (hs : 1 ≤ xsg (wt (n - 1).toNat).toInt) : ∃ t', xQ wt (n - 1) o p t' ∧ 0 ≤ t' := by
  rcases h.pop hn with ⟨a, -, -⟩ | ⟨a, -, -⟩ | ⟨-, -, -, t', b, c, -⟩
  · rw [a, xsg_40] at hs; omega
  · rw [a, xsg_m3] at hs; omega
  · exact ⟨t', b, c⟩
theorem xQ.topS {wt : Nat → Int32} {n o p t s : Int} (h : xQ wt n o p t) (h0 : 0 ≤ t) (h1 : 1 ≤ s) (hs : 1 ≤ n → xsg (wt (n - 1).toNat).toInt < s) : t < s := by
  by_cases hn : 1 ≤ n
  · rcases h.pop hn with ⟨a, b, -⟩ | ⟨a, b, -⟩ | ⟨-, -, b, -⟩
    · omega
    · omega
    · have := hs hn; omega
  · have := h.zero (by omega); omega
theorem xQ.popP {wt : Nat → Int32} {n o p t : Int} (h : xQ wt n o p t) (h0 : t = 0) (hp : 1 ≤ p) : 1 ≤ n ∧ ∃ t', xQ wt (n - 1) (o - 1) (p - 1) t' := by
  have hn : 1 ≤ n := by
    rcases Int.lt_or_le 0 n with h9 | h9
    · omega
    · have := h.zero (by omega); omega
  refine ⟨hn, ?_⟩
  rcases h.pop hn with ⟨a, -, b⟩ | ⟨a, b, -⟩ | ⟨-, -, -, t', b, c, d⟩
  · exact b
  · omega
  · omega
theorem xQ.popM {wt : Nat → Int32} {n o p t : Int} (h : xQ wt n o p t) (hn : 1 ≤ n) (hm : (wt (n - 1).toNat).toInt = -3) : ∃ t', xQ wt (n - 1) (o - 1) p t' := by
  rcases h.pop hn with ⟨a, -, -⟩ | ⟨-, -, b⟩ | ⟨-, a, -⟩
  · omega
  · exact b
  · exact absurd hm a
theorem xQ.topM {wt : Nat → Int32} {n o p t : Int} (h : xQ wt n o p t) (hm : 1 ≤ n → (wt (n - 1).toNat).toInt ≠ -3) : 0 ≤ t := by
  by_cases hn : 1 ≤ n
  · rcases h.pop hn with ⟨-, b, -⟩ | ⟨a, -, -⟩ | ⟨-, -, b, -⟩
    · omega
    · exact absurd a (hm hn)
    · have := xsg_le (wt (n - 1).toNat).toInt; omega
  · have := h.zero (by omega); omega
theorem xQ.push {wt : Nat → Int32} {n o p t : Int} {v : Int32} (h : xQ wt n o p t) : (v.toInt = 40 → xQ (upd wt n.toNat v) (n + 1) (o + 1) (p + 1) 0) ∧ (v.toInt = -3 → xQ (upd wt n.toNat v) (n + 1) (o + 1) p (-1)) ∧ (0 ≤ t → t < xsg v.toInt → xQ (upd wt n.toNat v) (n + 1) o p (xsg v.toInt)) := by
  have e : wqf (upd wt n.toNat v) n.toNat = some (o, p, t) := by
    rw [wqf_ext (wt := wt) (fun i hi => show upd wt n.toNat v i = wt i from if_neg (by omega))]
    exact h.2
  have ev : upd wt n.toNat v n.toNat = v := if_pos rfl
  have hs : wqf (upd wt n.toNat v) (n + 1).toNat = if v.toInt = 40 then some (o + 1, p + 1, 0) else if v.toInt = -3 then some (o + 1, p, -1) else if 0 ≤ t ∧ t < xsg v.toInt then some (o, p, xsg v.toInt) else none := by
    rw [show (n + 1).toNat = n.toNat + 1 by have := h.1; omega]
    conv => lhs; unfold wqf
    rw [e, ev]
  have h0 : 0 ≤ n + 1 := by have := h.1; omega
  refine ⟨fun h1 => ⟨h0, by rw [hs, if_pos h1]⟩, fun h1 => ⟨h0, by rw [hs, if_neg (by omega), if_pos h1]⟩, fun h1 h2 => ⟨h0, ?_⟩⟩
  have n1 : ¬ v.toInt = 40 := fun q => by rw [q, xsg_40] at h2; omega
  have n2 : ¬ v.toInt = -3 := fun q => by rw [q, xsg_m3] at h2; omega
  rw [hs, if_neg n1, if_neg n2, if_pos ⟨h1, h2⟩]
/-- a formula that is being read: its cell j, the row r of what waits -/
def xFi (j r : Nat) (G : gS) : Prop := (∃ t, xQ (G r) (G j 4).toInt (G j 6).toInt (G j 7).toInt t ∧ ((G j 8).toInt = 0 → 0 ≤ t)) ∧ (G j 6).toInt ≤ 4
theorem xFi.eq {j r : Nat} {G G' : gS} (h : xFi j r G) (e : G' r = G r) (e4 : G' j 4 = G j 4) (e6 : G' j 6 = G j 6) (e7 : G' j 7 = G j 7) (e8 : G' j 8 = G j 8) : xFi j r G' := by
  unfold xFi at *
  rw [e, e4, e6, e7, e8]
  exact h
def xF3 (G : gS) : Prop := xFi 14 31 G ∧ xFi 15 34 G ∧ xFi 16 37 G
theorem xFi.un {j r : Nat} {G G1 : gS} {L : List Nat} (h : xFi j r G) (hU : gu_un xcd L G G1) (hL : (L.contains (xcd r 0) || L.contains (xcd j 4) || L.contains (xcd j 6) || L.contains (xcd j 7) || L.contains (xcd j 8)) = false) (hr : ∀ k, xcd r k = xcd r 0) : xFi j r G1 := by
  have hm : ∀ n : Nat, L.contains n = false → n ∉ L := by
    intro n h1 h2
    rw [List.contains_iff_mem.mpr h2] at h1
    cases h1
  simp only [Bool.or_eq_false_iff] at hL
  exact h.eq (funext fun k => hU r k (by rw [hr k]; exact hm _ hL.1.1.1.1)) (hU j 4 (hm _ hL.1.1.1.2)) (hU j 6 (hm _ hL.1.1.2)) (hU j 7 (hm _ hL.1.2)) (hU j 8 (hm _ hL.2))
theorem xF3.un {G G1 : gS} {L : List Nat} (h : xF3 G) (hU : gu_un xcd L G G1) (h1 : (L.contains 3100 || L.contains 1405 || L.contains 1407 || L.contains 1408 || L.contains 1409) = false) (h2 : (L.contains 3400 || L.contains 1505 || L.contains 1507 || L.contains 1508 || L.contains 1509) = false) (h3 : (L.contains 3700 || L.contains 1605 || L.contains 1607 || L.contains 1608 || L.contains 1609) = false) : xF3 G1 := ⟨h.1.un hU h1 (fun _ => rfl), h.2.1.un hU h2 (fun _ => rfl), h.2.2.un hU h3 (fun _ => rfl)⟩
/-- the numbers of a shop lie within its bounds -/
def xNb (f : Nat → Int32) : Prop := ∀ k, xlo 18 k ≤ (f k).toInt ∧ (f k).toInt ≤ xhi 18 k
theorem xNb.put {f : Nat → Int32} {k : Nat} {v : Int32} (h : xNb f) (h1 : xlo 18 k ≤ v.toInt) (h2 : v.toInt ≤ xhi 18 k) : xNb (upd f k v) := fun q => by
  by_cases e : q = k
  · subst e; rw [show upd f q v q = v from if_pos rfl]; exact ⟨h1, h2⟩
  · rw [show upd f k v q = f q from if_neg e]; exact h q
theorem xNb_far {k : Nat} (h : 36 ≤ k) (v : Int32) : xlo 18 k ≤ v.toInt ∧ v.toInt ≤ xhi 18 k := by
  have n0 : ¬ k = 0 := by omega
  have n1 : ¬ k = 1 := by omega
  have n2 : ¬ k = 2 := by omega
  have n3 : ¬ k = 3 := by omega
  have n4 : ¬ k = 4 := by omega
  have n5 : ¬ k = 5 := by omega
  have n6 : ¬ k = 6 := by omega
  have n7 : ¬ k = 7 := by omega
  have n8 : ¬ k = 8 := by omega
  have n9 : ¬ k = 9 := by omega
  have n10 : ¬ k = 10 := by omega
  have n11 : ¬ k = 11 := by omega
  have n20 : ¬ k = 20 := by omega
  have n21 : ¬ k = 21 := by omega
  have n22 : ¬ k = 22 := by omega
  have n23 : ¬ k = 23 := by omega
  have n30 : ¬ k = 30 := by omega
  have n31 : ¬ k = 31 := by omega
  have n32 : ¬ k = 32 := by omega
  have n33 : ¬ k = 33 := by omega
  have n34 : ¬ k = 34 := by omega
  have n35 : ¬ k = 35 := by omega
  have e1 : xlo 18 k = -2147483648 := by simp [xlo, n0, n1, n2, n3, n4, n5, n6, n7, n8, n9, n10, n11, n20, n21, n22, n23, n30, n31, n32, n33, n34, n35]
  have e2 : xhi 18 k = 2147483647 := by simp [xhi, n0, n1, n2, n3, n4, n5, n6, n7, n8, n9, n10, n11, n20, n21, n22, n23, n30, n31, n32, n33, n34, n35]
  rw [e1, e2]
  exact ti_rng v
theorem xNb_untold {f : Nat → Int32} (z : ∀ q : Nat, q < 36 → f q = 0) : xNb (va_cpy gz_untold f 0 0 12) := fun k => by
  by_cases h : 36 ≤ k
  · exact xNb_far h _
  · by_cases h2 : k < 12
    · rw [show va_cpy gz_untold f 0 0 12 k = gz_untold k by unfold va_cpy; rw [if_pos (by omega)]; congr 1; omega]
      rcases (show k = 0 ∨ k = 1 ∨ k = 2 ∨ k = 3 ∨ k = 4 ∨ k = 5 ∨ k = 6 ∨ k = 7 ∨ k = 8 ∨ k = 9 ∨ k = 10 ∨ k = 11 by omega) with rfl | rfl | rfl | rfl | rfl | rfl | rfl | rfl | rfl | rfl | rfl | rfl <;> decide
    · rw [show va_cpy gz_untold f 0 0 12 k = f k by unfold va_cpy; rw [if_neg (by omega)], z k (by omega)]
      rcases (show k = 12 ∨ k = 13 ∨ k = 14 ∨ k = 15 ∨ k = 16 ∨ k = 17 ∨ k = 18 ∨ k = 19 ∨ k = 20 ∨ k = 21 ∨ k = 22 ∨ k = 23 ∨ k = 24 ∨ k = 25 ∨ k = 26 ∨ k = 27 ∨ k = 28 ∨ k = 29 ∨ k = 30 ∨ k = 31 ∨ k = 32 ∨ k = 33 ∨ k = 34 ∨ k = 35 by omega) with rfl | rfl | rfl | rfl | rfl | rfl | rfl | rfl | rfl | rfl | rfl | rfl | rfl | rfl | rfl | rfl | rfl | rfl | rfl | rfl | rfl | rfl | rfl | rfl <;> decide
