/-- below n each depth that has a time has a feed and a speed to begin with -/
def yPl (rl sw q pt pm : Nat → Int32) (n : Int) : Prop := ∀ v : Int, 1 ≤ v → v < n → (pt v.toNat).toInt < 1000000000 → ∃ f s : Int, 1 ≤ f ∧ f ≤ 20 ∧ 1 ≤ s ∧ s ≤ 9 ∧ yOn rl sw q pt pm v f s
theorem yPl_1 {rl sw q pt pm : Nat → Int32} {n : Int} (h : n ≤ 1) : yPl rl sw q pt pm n := fun v h1 h2 => by omega
theorem yOn_far {rl sw q pt pm : Nat → Int32} {v f s : Int} {u : Nat} {a b : Int32} (h1 : 0 ≤ v) (h2 : v < u) (h3 : 1 ≤ f) (h : yOn rl sw q pt pm v f s) : yOn rl sw q (upd pt u a) (upd pm u b) v f s := by
  obtain ⟨g1, g2, g3, g4, g5⟩ := h
  have n1 : ¬ v.toNat = u := by omega
  have n2 : ¬ (v - f).toNat = u := by omega
  unfold yOn
  simp only [upd, if_neg n1, if_neg n2]
  exact ⟨g1, g2, g3, g4, g5⟩
theorem yPl_far {rl sw q pt pm : Nat → Int32} {u : Int} {a b : Int32} (hu : 0 ≤ u) (h : yPl rl sw q pt pm u) : yPl rl sw q (upd pt u.toNat a) (upd pm u.toNat b) u := fun v h1 h2 h3 => by
  have n1 : ¬ v.toNat = u.toNat := by omega
  simp only [upd, if_neg n1] at h3
  obtain ⟨f, s, g1, g2, g3, g4, g5⟩ := h v h1 h2 h3
  exact ⟨f, s, g1, g2, g3, g4, yOn_far (by omega) (by omega) g1 g5⟩
theorem yPl_add {rl sw q pt pm : Nat → Int32} {u : Int} (h : yPl rl sw q pt pm u) (h2 : (pt u.toNat).toInt < 1000000000 → ∃ f s : Int, 1 ≤ f ∧ f ≤ 20 ∧ 1 ≤ s ∧ s ≤ 9 ∧ yOn rl sw q pt pm u f s) : yPl rl sw q pt pm (u + 1) := fun v h1 h3 h4 => by
  by_cases e : v = u
  · subst e; exact h2 h4
  · exact h v h1 (by omega) h4
theorem yPl_le {rl sw q pt pm : Nat → Int32} {u n : Int} (h : yPl rl sw q pt pm n) (h2 : u ≤ n) : yPl rl sw q pt pm u := fun v h1 h3 h4 => h v h1 (by omega) h4
theorem yPl_never {rl sw q pt pm : Nat → Int32} {u : Int} {b : Int32} (hu : 0 ≤ u) (h : yPl rl sw q pt pm u) : yPl rl sw q (upd pt u.toNat 1000000000) (upd pm u.toNat b) (u + 1) := yPl_add (yPl_far hu h) (fun h4 => by
  simp only [upd, if_true] at h4
  exact absurd h4 (by decide))
theorem yPl_put {rl sw q pt pm : Nat → Int32} {u f s : Int} {a b : Int32} (hu : 0 ≤ u) (h : yPl rl sw q pt pm (u + 1)) (h1 : 1 ≤ f) (h2 : f ≤ 20) (h3 : 1 ≤ s) (h4 : s ≤ 9) (h5 : f ≤ u) (h6 : (q (21 * s + f).toNat).toInt ≠ 0) (h7 : (pt (u - f).toNat).toInt < 1000000000) (ha : a = yT rl sw s + pt (u - f).toNat) (hb : b = 1 + pm (u - f).toNat) : yPl rl sw q (upd pt u.toNat a) (upd pm u.toNat b) (u + 1) := yPl_add (yPl_far hu (yPl_le h (by omega))) (fun _ => by
  have n2 : ¬ (u - f).toNat = u.toNat := by omega
  refine ⟨f, s, h1, h2, h3, h4, ?_⟩
  unfold yOn
  simp only [upd, if_neg n2, if_true]
  exact ⟨h5, h6, h7, by rw [ha], by rw [hb]⟩)
theorem yPl_mark {rl sw q pt pm : Nat → Int32} {n u : Int} (h : yPl rl sw q pt pm n) (h1 : 1 ≤ u) (h2 : u < n) (h3 : (pt u.toNat).toInt < 1000000000) : ∃ m : Int, 21 ≤ m ∧ m ≤ 200 ∧ yOn rl sw q pt pm u ((m - 1) % 20 + 1) ((m - 1) / 20) := by
  obtain ⟨f, s, g1, g2, g3, g4, g5⟩ := h u h1 h2 h3
  refine ⟨20 * s + f, by omega, by omega, ?_⟩
  rw [show (20 * s + f - 1) % 20 + 1 = f by omega, show (20 * s + f - 1) / 20 = s by omega]
  exact g5
