/-- the time of a pass: what timeOf sums up -/
def yTa (rl sw : Nat → Int32) (sp : Int32) : Nat → Int32
  | 0 => 0
  | n + 1 => yTa rl sw sp n + (sp + sw ((n : Int) % (rl 11).toInt).toNat)
def yT (rl sw : Nat → Int32) (sp : Int) : Int32 := yTa rl sw (Int32.ofInt sp) (rl 0 * rl 9).toInt.toNat
theorem ti_of {x : Int32} {a : Int} (h : x.toInt = a) : x = Int32.ofInt a := by rw [← h, Int32.ofInt_toInt]
theorem yTa_1 {rl sw : Nat → Int32} {sp x : Int32} {n m : Int} (h0 : 0 ≤ n) (hm : m = n % (rl 11).toInt) (hx : x = yTa rl sw sp n.toNat) : x + (sp + sw m.toNat) = yTa rl sw sp (n.toNat + 1) := by
  show _ = yTa rl sw sp n.toNat + (sp + sw ((n.toNat : Int) % (rl 11).toInt).toNat)
  rw [show ((n.toNat : Nat) : Int) = n by omega, ← hm, hx]
