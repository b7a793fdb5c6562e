theorem y_sHr {f : Nat → Int32} {r s : Int} {G E : gS} (h : ∀ i : Nat, (i : Int) < s → f i = yHr (E 14) r i) (ho : yOt r s G E) (hr : 0 ≤ r) : ∀ q : Nat, E 14 q = sHr (G 14) f r s q := fun q => by
  unfold sHr
  by_cases c : 16 * r ≤ (q : Int) ∧ (q : Int) < 16 * r + s
  · rw [if_pos c, h _ (by omega)]
    unfold yHr
    rw [show (16 * r + ((((q : Int) - 16 * r).toNat : Nat) : Int)).toNat = q by omega]
  · rw [if_neg c]
    exact (ho q (by omega)).1
