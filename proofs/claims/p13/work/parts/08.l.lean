/-- a row of a plan may begin with this feed and speed -/
def yOn (rl sw q pt pm : Nat → Int32) (u f s : Int) : Prop := f ≤ u ∧ (q (21 * s + f).toNat).toInt ≠ 0 ∧ (pt (u - f).toNat).toInt < 1000000000 ∧ (yT rl sw s + pt (u - f).toNat).toInt = (pt u.toNat).toInt ∧ (1 + pm (u - f).toNat).toInt = (pm u.toNat).toInt
