/-- a byte of the tape, 0 behind its end -/
def yBi (t : Nat → Int32) (n k : Int) : Int := if k < n then (t k.toNat &&& 255).toInt else 0
theorem bi_dec {x : Int32} (h : x.toInt ≠ 0) : (x &&& (x - 1)).toBitVec.toNat < x.toBitVec.toNat := by
  have hx : x.toBitVec ≠ 0#32 := by
    intro e
    apply h
    show x.toBitVec.toInt = 0
    rw [e]
    rfl
  have h0 : 0 < x.toBitVec.toNat := by
    apply Nat.pos_of_ne_zero
    intro e
    exact hx (BitVec.eq_of_toNat_eq (by rw [e]; rfl))
  have e1 : (x &&& (x - 1)).toBitVec = x.toBitVec &&& (x.toBitVec - 1#32) := rfl
  have e2 : (x.toBitVec - 1#32).toNat = x.toBitVec.toNat - 1 := by
    rw [BitVec.toNat_sub]
    have := x.toBitVec.isLt
    have e3 : (1#32).toNat = 1 := rfl
    rw [e3]
    omega
  rw [e1, BitVec.toNat_and, e2]
  exact Nat.lt_of_le_of_lt Nat.and_le_right (by omega)
