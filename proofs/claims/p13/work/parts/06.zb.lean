/-! the steps of the machine, on both sides -/
theorem ti_mulA {x y : Int32} {A B : Nat} (ha : x.toInt.natAbs ≤ A) (hb : y.toInt.natAbs ≤ B) (h : A * B ≤ 2147483647) : (x * y).toInt.natAbs ≤ A * B := by
  have h1 := Nat.mul_le_mul ha hb
  rw [← Int.natAbs_mul] at h1
  rw [ti_mul (x := x) (y := y) rfl rfl (by omega) (by omega)]
  exact h1
theorem ti_divA {x y : Int32} {A : Nat} (ha : x.toInt.natAbs ≤ A) (hA : A ≤ 2147483647) : (x / y).toInt.natAbs ≤ A := by
  rw [Int32.toInt_div]
  have h1 := Int.natAbs_tdiv_le_natAbs x.toInt y.toInt
  rw [ti_bm (by omega) (by omega)]
  omega
/-- how far the machine may be after a step -/
theorem psV_bd {fo ho da x v m : Int32} (h1 : -39996 ≤ fo.toInt ∧ fo.toInt ≤ 39996) (h2 : 0 ≤ ho.toInt ∧ ho.toInt ≤ 1299) (h3 : 0 ≤ da.toInt ∧ da.toInt ≤ 300) (h4 : -9999 ≤ x.toInt ∧ x.toInt ≤ 9999) (h5 : -19998 ≤ v.toInt ∧ v.toInt ≤ 19998) : -19100000 ≤ (v + (fo - ho * x - da * v) / m).toInt ∧ (v + (fo - ho * x - da * v) / m).toInt ≤ 19100000 := by
  have a1 := ti_mulA (x := ho) (y := x) (A := 1299) (B := 9999) (by omega) (by omega) (by decide)
  have a2 := ti_mulA (x := da) (y := v) (A := 300) (B := 19998) (by omega) (by omega) (by decide)
  have e1 : (1299 : Nat) * 9999 = 12988701 := by decide
  have e2 : (300 : Nat) * 19998 = 5999400 := by decide
  rw [e1] at a1
  rw [e2] at a2
  have a3 := ti_sub (x := fo) (y := ho * x) rfl rfl (by omega) (by omega)
  have a4 := ti_sub (x := fo - ho * x) (y := da * v) rfl rfl (by omega) (by omega)
  have a5 := ti_divA (x := fo - ho * x - da * v) (y := m) (A := 19028097) (by omega) (by decide)
  have a6 := ti_add (x := v) (y := (fo - ho * x - da * v) / m) rfl rfl (by omega) (by omega)
  omega
theorem psA_rng {x : Int32} (h : -20000000 ≤ x.toInt ∧ x.toInt ≤ 20000000) : 0 ≤ psA x ∧ psA x ≤ 20000000 ∧ x.toInt ≤ psA x ∧ -x.toInt ≤ psA x := by
  unfold psA
  split <;> omega
theorem psA_le {x : Int32} {n : Int} (h : psA x ≤ n) : -n ≤ x.toInt ∧ x.toInt ≤ n := by
  unfold psA at h
  split at h <;> omega
/-- the machine's numbers: x, v, farthest, time, shaken -/
def swR (T : gS) (x v pk tm sh : Int32) : Prop := T 4 1 = x ∧ T 4 2 = v ∧ T 4 4 = pk ∧ T 4 5 = tm ∧ T 4 7 = sh
theorem swR.step {Q S : gS} {fo ho x v pk tm x' v' pk' tm' sh sh' : Int32} {n : Nat} {y : Int} (h : swR (psJ Q fo ho n S) x v pk tm sh) (h0 : sh.toInt = 0) (hv : v' = v + (fo - ho * x - Q 3 5 * v) / Q 0 2) (hx : x' = x + v') (hp : pk'.toInt = max pk.toInt (psA x')) (ht : tm' = tm + 1) (hs : (sh' = 1 ∧ (Q 0 7).toInt < psA x') ∨ (sh' = 0 ∧ psA x' ≤ (Q 0 7).toInt)) (hy : y = (n : Int) + 1) : swR (psJ Q fo ho y.toNat S) x' v' pk' tm' sh' := by
  obtain ⟨h1, h2, h3, h4, h5⟩ := h
  have e0 : sh = 0 := Int32.toInt_inj.mp h0
  have e : psJ Q fo ho y.toNat S = psS Q fo ho (psJ Q fo ho n S) := by
    rw [hy, show ((n : Int) + 1).toNat = n + 1 by omega]
    show (if psJ Q fo ho n S 4 7 = 0 then psS Q fo ho (psJ Q fo ho n S) else psJ Q fo ho n S) = _
    rw [if_pos (by rw [h5, e0])]
  rw [e]
  have ev : psV Q fo ho (psJ Q fo ho n S) = v' := by
    unfold psV
    rw [h1, h2, hv]
  have ex : psJ Q fo ho n S 4 1 + psV Q fo ho (psJ Q fo ho n S) = x' := by rw [ev, h1, hx]
  refine ⟨?_, ?_, ?_, ?_, ?_⟩
  · show psJ Q fo ho n S 4 1 + psV Q fo ho (psJ Q fo ho n S) = x'
    exact ex
  · show psV Q fo ho (psJ Q fo ho n S) = v'
    exact ev
  · show Int32.ofInt (max (psJ Q fo ho n S 4 4).toInt (psA (psJ Q fo ho n S 4 1 + psV Q fo ho (psJ Q fo ho n S)))) = pk'
    rw [ex, h3, ← hp, Int32.ofInt_toInt]
  · show psJ Q fo ho n S 4 5 + 1 = tm'
    rw [h4, ht]
  · show (if (Q 0 7).toInt < psA (psJ Q fo ho n S 4 1 + psV Q fo ho (psJ Q fo ho n S)) then (1 : Int32) else 0) = sh'
    rw [ex]
    rcases hs with ⟨a, b⟩ | ⟨a, b⟩
    · rw [if_pos b, a]
    · rw [if_neg (by omega), a]
/-- what was shaken stays as it is -/
theorem psJ_stop {Q S : gS} {fo ho : Int32} {n : Nat} : ∀ {m : Nat}, n ≤ m → psJ Q fo ho n S 4 7 ≠ 0 → psJ Q fo ho m S = psJ Q fo ho n S
  | 0, h, _ => by rw [show n = 0 by omega]
  | m + 1, h, g => by
    by_cases e : n = m + 1
    · rw [e]
    · have ih := psJ_stop (Q := Q) (S := S) (fo := fo) (ho := ho) (m := m) (by omega) g
      show (if psJ Q fo ho m S 4 7 = 0 then psS Q fo ho (psJ Q fo ho m S) else psJ Q fo ho m S) = _
      rw [ih, if_neg g]
/-- at the end of the steps -/
theorem swR.fin {Q S : gS} {fo ho x v pk tm sh : Int32} {n m : Int} (h : swR (psJ Q fo ho n.toNat S) x v pk tm sh) (h0 : 0 ≤ n) (hn : n ≤ m ∨ n ≤ 0) (hd : m ≤ n ∨ sh.toInt ≠ 0) : swR (psJ Q fo ho m.toNat S) x v pk tm sh := by
  by_cases e : m.toNat = n.toNat
  · rw [e]; exact h
  · rw [psJ_stop (n := n.toNat) (by omega) (fun q => by
      rcases hd with g | g
      · omega
      · rw [h.2.2.2.2] at q
        rw [q] at g
        exact g rfl)]
    exact h
theorem tm_1 {g : Int32} {a b : Int} (h : a = b + 1) : g + Int32.ofInt a = g + Int32.ofInt b + 1 := by
  rw [h, Int32.ofInt_add, Int32.add_assoc]
  rfl
