/-! marks of a sum as codes -/
/-- a mark as a code -/
def mEn (kd vl : Int) : Int := if kd = 0 then vl else if kd = 1 then (if vl = 0 then -1 else if vl = 1 then -2 else -1000000) else if vl = 33 then -3 else if xsg vl ≠ 0 then -3 - vl else -1000000
theorem mEn_0 {k x : Int} (h : k = 0) : mEn k x = x := if_pos h
theorem mEn_1 {k x : Int} (h : k = 1) (hx : x = 0 ∨ x = 1) : mEn k x = -1 - x := by
  unfold mEn
  rw [if_neg (by omega), if_pos h]
  rcases hx with e | e
  · rw [if_pos e, e]
    rfl
  · rw [if_neg (by omega), if_pos e, e]
    rfl
theorem mEn_2 {k x n : Int} (h : k = 2) (hx : x ≠ 33) (hs : xsg x = n) (hn : n ≠ 0) : mEn k x = -3 - x := by
  unfold mEn
  rw [if_neg (by omega), if_neg (by omega), if_neg hx, if_pos (by omega)]
theorem mEn_3 {k x : Int} (h : k = 2) (hx : x = 33) : mEn k x = -3 := by
  unfold mEn
  rw [if_neg (by omega), if_neg (by omega), if_pos hx]
def mkr (kd vl : Nat → Int32) (b : Nat) : Nat → List Int
  | 0 => []
  | m + 1 => mEn (kd (b + m)).toInt (vl (b + m)).toInt :: mkr kd vl b m
theorem mkr_ext {kd vl kd' vl' : Nat → Int32} {b : Nat} : ∀ {m : Nat}, (∀ i : Nat, b ≤ i → i < b + m → kd' i = kd i ∧ vl' i = vl i) → mkr kd' vl' b m = mkr kd vl b m
  | 0, _ => rfl
  | m + 1, h => by
    show mEn (kd' (b + m)).toInt (vl' (b + m)).toInt :: mkr kd' vl' b m = mEn (kd (b + m)).toInt (vl (b + m)).toInt :: mkr kd vl b m
    rw [(h (b + m) (by omega) (by omega)).1, (h (b + m) (by omega) (by omega)).2, mkr_ext (fun i a1 a2 => h i a1 (by omega))]
/-- the marks of the sum w, the latest first -/
def mL (w : Int) (G : gS) : List Int := mkr (G 10) (G 11) (80 * w).toNat (G 12 w.toNat).toInt.toNat
