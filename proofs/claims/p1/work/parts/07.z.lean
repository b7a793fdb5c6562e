theorem gl_lt (x y : Int64) : lg_cmp x y < 0 ↔ x < y := by rw [← Int32.not_le, lg_cmp_ge, Int64.not_le]
theorem gl_gt (x y : Int64) : 0 < lg_cmp x y ↔ y < x := by
  unfold lg_cmp
  by_cases h1 : y < x
  · simp [h1]
  · by_cases h2 : x = y
    · subst h2; simp
    · simp [h1, h2]
theorem gl_in (x lo hi : Int32) (l h : Int64) (hl : l.toInt = lo.toInt) (hh : h.toInt = hi.toInt) : (if l ≤ x.toInt64 ∧ x.toInt64 ≤ h then (1 : Int32) else 0) = if lo ≤ x ∧ x ≤ hi then 1 else 0 := by
  simp only [Int64.le_iff_toInt_le, Int32.le_iff_toInt_le, hl, hh, Int32.toInt_toInt64]
