/-! the greatest and the least of a row, the gap -/
theorem psMx_go {h : Nat → Int32} {i y m r : Int} (h0 : 0 ≤ i) (hb : -1000000 ≤ (h i.toNat).toInt) (g : (i = 0 ∧ m = -1000000) ∨ (1 ≤ i ∧ m = psMx h (i - 1).toNat)) (hr : r = max m (h i.toNat).toInt) (hy : y = i + 1) : (y = 0 ∧ r = -1000000) ∨ (1 ≤ y ∧ r = psMx h (y - 1).toNat) := by
  right
  refine ⟨by omega, ?_⟩
  rcases g with ⟨g1, g2⟩ | ⟨g1, g2⟩
  · subst g1
    rw [hy, show (0 + 1 - 1 : Int).toNat = 0 by omega]
    show r = (h 0).toInt
    rw [show (0 : Int).toNat = 0 from rfl] at hr hb
    omega
  · rw [hy, show (i + 1 - 1).toNat = (i - 1).toNat + 1 by omega]
    show r = max (psMx h (i - 1).toNat) (h ((i - 1).toNat + 1)).toInt
    rw [show (i - 1).toNat + 1 = i.toNat by omega, ← g2]
    exact hr
theorem psMn_go {h : Nat → Int32} {st i y m r : Int} (hs : 0 ≤ st) (h0 : st ≤ i) (hb : (h i.toNat).toInt ≤ 1000000) (g : (i = st ∧ m = 1000000) ∨ (st + 1 ≤ i ∧ m = psMn (fun q => h (st.toNat + q)) (i - 1 - st).toNat)) (hr : r = min m (h i.toNat).toInt) (hy : y = i + 1) : (y = st ∧ r = 1000000) ∨ (st + 1 ≤ y ∧ r = psMn (fun q => h (st.toNat + q)) (y - 1 - st).toNat) := by
  right
  refine ⟨by omega, ?_⟩
  rcases g with ⟨g1, g2⟩ | ⟨g1, g2⟩
  · subst g1
    rw [hy, show (i + 1 - 1 - i).toNat = 0 by omega]
    show r = (h (i.toNat + 0)).toInt
    rw [Nat.add_zero]
    omega
  · rw [hy, show (i + 1 - 1 - st).toNat = (i - 1 - st).toNat + 1 by omega]
    show r = min (psMn (fun q => h (st.toNat + q)) (i - 1 - st).toNat) (h (st.toNat + ((i - 1 - st).toNat + 1))).toInt
    rw [show st.toNat + ((i - 1 - st).toNat + 1) = i.toNat by omega, ← g2]
    exact hr
/-- the gap of a ring: the least of its neighbours -/
def psGa (h : Nat → Int32) (r n s lv : Int) : Int := if 1 ≤ r then (if r + 1 < n then min (psMn (fun q => h ((16 * (r - 1)).toNat + q)) (s - 1).toNat) (psMn (fun q => h ((16 * (r + 1)).toNat + q)) (s - 1).toNat) else psMn (fun q => h ((16 * (r - 1)).toNat + q)) (s - 1).toNat) else if r + 1 < n then psMn (fun q => h ((16 * (r + 1)).toNat + q)) (s - 1).toNat else lv
theorem psMx_eq {h g : Nat → Int32} : ∀ {n : Nat}, (∀ i : Nat, i ≤ n → h i = g i) → psMx h n = psMx g n
  | 0, e => by
    show (h 0).toInt = (g 0).toInt
    rw [e 0 (by omega)]
  | n + 1, e => by
    show max (psMx h n) (h (n + 1)).toInt = max (psMx g n) (g (n + 1)).toInt
    rw [psMx_eq (fun i hi => e i (by omega)), e (n + 1) (by omega)]
theorem psMn_eq {h g : Nat → Int32} : ∀ {n : Nat}, (∀ i : Nat, i ≤ n → h i = g i) → psMn h n = psMn g n
  | 0, e => by
    show (h 0).toInt = (g 0).toInt
    rw [e 0 (by omega)]
  | n + 1, e => by
    show min (psMn h n) (h (n + 1)).toInt = min (psMn g n) (g (n + 1)).toInt
    rw [psMn_eq (fun i hi => e i (by omega)), e (n + 1) (by omega)]
theorem psMn_bd {h : Nat → Int32} {a b : Int} (hb : ∀ i : Nat, a ≤ (h i).toInt ∧ (h i).toInt ≤ b) : ∀ n : Nat, a ≤ psMn h n ∧ psMn h n ≤ b
  | 0 => hb 0
  | n + 1 => by
    have h1 := psMn_bd hb n
    have h2 := hb (n + 1)
    show a ≤ min (psMn h n) (h (n + 1)).toInt ∧ min (psMn h n) (h (n + 1)).toInt ≤ b
    omega
theorem psMx_bd {h : Nat → Int32} {a b : Int} (hb : ∀ i : Nat, a ≤ (h i).toInt ∧ (h i).toInt ≤ b) : ∀ n : Nat, a ≤ psMx h n ∧ psMx h n ≤ b
  | 0 => hb 0
  | n + 1 => by
    have h1 := psMx_bd hb n
    have h2 := hb (n + 1)
    show a ≤ max (psMx h n) (h (n + 1)).toInt ∧ max (psMx h n) (h (n + 1)).toInt ≤ b
    omega
theorem teeth_1 {f g : Nat → Int32} {i y : Int} {v : Int32} (h0 : 0 ≤ i) (h : ∀ q : Nat, (q : Int) < i → f q = g (20 + q)) (hv : v = g (20 + i).toNat) (hy : y = i + 1) : ∀ q : Nat, (q : Int) < y → upd f i.toNat v q = g (20 + q) := fun q hq => by
  by_cases e : q = i.toNat
  · rw [show upd f i.toNat v q = v from if_pos e, hv, show (20 + i).toNat = 20 + q by omega]
  · rw [show upd f i.toNat v q = f q from if_neg e]
    exact h q (by omega)
theorem psMx_s {h : Nat → Int32} {i y m r : Int} (h1 : 1 ≤ i) (g : m = psMx h (i - 1).toNat) (hr : r = max m (h i.toNat).toInt) (hy : y = i + 1) : r = psMx h (y - 1).toNat := by
  rw [hy, show (i + 1 - 1).toNat = (i - 1).toNat + 1 by omega]
  show r = max (psMx h (i - 1).toNat) (h ((i - 1).toNat + 1)).toInt
  rw [show (i - 1).toNat + 1 = i.toNat by omega, ← g]
  exact hr
theorem psMn_s {h : Nat → Int32} {i y m r : Int} (h1 : 1 ≤ i) (g : m = psMn h (i - 1).toNat) (hr : r = min m (h i.toNat).toInt) (hy : y = i + 1) : r = psMn h (y - 1).toNat := by
  rw [hy, show (i + 1 - 1).toNat = (i - 1).toNat + 1 by omega]
  show r = min (psMn h (i - 1).toNat) (h ((i - 1).toNat + 1)).toInt
  rw [show (i - 1).toNat + 1 = i.toNat by omega, ← g]
  exact hr
