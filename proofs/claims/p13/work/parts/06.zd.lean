/-! a sector of a pass, from what its parts tell -/
theorem psT_7 {Q S : gS} {C : Nat → List Int} {i : Int} {t : Int32} : ∀ {k : Nat}, psT Q C i t k S 4 7 = S 4 7 ∧ psT Q C i t k S 4 8 = S 4 8
  | 0 => ⟨rfl, rfl⟩
  | k + 1 => by
    have ih := psT_7 (Q := Q) (S := S) (C := C) (i := i) (t := t) (k := k)
    show (if (psH Q i t k (psT Q C i t k S)).toInt ≤ 0 then psO (psT Q C i t k S) else psB Q C i t k (psT Q C i t k S)) 4 7 = _ ∧ (if (psH Q i t k (psT Q C i t k S)).toInt ≤ 0 then psO (psT Q C i t k S) else psB Q C i t k (psT Q C i t k S)) 4 8 = _
    by_cases e : (psH Q i t k (psT Q C i t k S)).toInt ≤ 0
    · rw [if_pos e]
      exact ih
    · rw [if_neg e]
      exact ih
/-- the machine's steps leave the piece -/
theorem psJ_k {Q S : gS} {fo ho : Int32} : ∀ {n : Nat}, (∀ j : Nat, j ≠ 4 → psJ Q fo ho n S j = S j) ∧ psJ Q fo ho n S 4 0 = S 4 0 ∧ psJ Q fo ho n S 4 3 = S 4 3 ∧ psJ Q fo ho n S 4 8 = S 4 8
  | 0 => ⟨fun _ _ => rfl, rfl, rfl, rfl⟩
  | n + 1 => by
    obtain ⟨h1, h2, h3, h4⟩ := psJ_k (Q := Q) (S := S) (fo := fo) (ho := ho) (n := n)
    have e0 : psJ Q fo ho (n + 1) S = if psJ Q fo ho n S 4 7 = 0 then psS Q fo ho (psJ Q fo ho n S) else psJ Q fo ho n S := rfl
    rw [e0]
    by_cases e : psJ Q fo ho n S 4 7 = 0
    · rw [if_pos e]
      refine ⟨fun j hj => ?_, h2, h3, h4⟩
      rw [← h1 j hj]
      exact if_neg hj
    · rw [if_neg e]
      exact ⟨h1, h2, h3, h4⟩
theorem psI_of {Q : gS} {n : Nat} {t i s : Int} (hn : (n : Int) = t * s + i) (h0 : 0 ≤ i) (hi : i < s) (hs : (Q 0 0).toInt = s) : psI Q n = i := by
  unfold psI
  rw [hs, hn, Int.add_comm, Int.add_mul_emod_self_right]
  exact Int.emod_eq_of_lt h0 hi
theorem psU_of {Q : gS} {n : Nat} {t i s : Int} {T : Int32} (hn : (n : Int) = t * s + i) (h0 : 0 ≤ i) (hi : i < s) (hs : (Q 0 0).toInt = s) (ht : T.toInt = t) : psU Q n = T := by
  unfold psU
  rw [hs, hn, Int.add_comm, Int.add_mul_ediv_right _ _ (by omega), Int.ediv_eq_zero_of_lt h0 hi, Int.zero_add, ← ht, Int32.ofInt_toInt]
/-- the next one of a row that goes round -/
theorem rnd_1 {n m r y : Int} (h : r = n % m) (hm : 0 < m) (hn : 0 ≤ n) (hy : y = if r + 1 < m then r + 1 else 0) : y = (n + 1) % m := by
  have h0 := Int.emod_nonneg n (show m ≠ 0 by omega)
  have h1 := Int.emod_lt_of_pos n hm
  have e := Int.emod_add_mul_ediv n m
  rw [hy]
  by_cases g : r + 1 < m
  · rw [if_pos g]
    have e2 : n + 1 = (r + 1) + m * (n / m) := by omega
    rw [e2, Int.add_mul_emod_self_left]
    exact (Int.emod_eq_of_lt (by omega) g).symm
  · rw [if_neg g]
    have e2 : n + 1 = m * (n / m + 1) := by rw [Int.mul_add]; omega
    rw [e2, Int.mul_emod_right]
section PN
variable {Q S : gS} {C : Nat → List Int} {s i : Int} {t : Int32} {n : Nat} {y : Int} {h h' a b c : Nat → Int32} {we x v ou pk tm fo fo0 we' x' v' ou' pk' tm' fo' sh ho st hi : Int32} {m : Nat}
theorem pR.G (g : pR s S h we x v ou pk tm fo0) : pR s (psG t S) h we x v ou pk tm 0 := ⟨g.1, g.2.1, g.2.2.1, g.2.2.2.1, g.2.2.2.2.1, g.2.2.2.2.2.1, g.2.2.2.2.2.2.1, rfl⟩
theorem pL.G (g : pL s S a b c) : pL s (psG t S) a b c := g
theorem psK_of (hi : psI Q n = i) (ht : psU Q n = t) (hm : (Q 3 6).toInt.toNat = m) : psK Q C n S = psT Q C i t m (psG t S) := by
  unfold psK
  rw [hi, ht, hm]
/-- the machine's numbers ahead of its steps -/
theorem pR.sw (g : pR s (psT Q C i t m (psG t S)) h we x v ou pk tm fo) (h7 : S 4 7 = 0) : swR (psT Q C i t m (psG t S)) x v pk tm 0 := ⟨g.2.2.1, g.2.2.2.1, g.2.2.2.2.2.1, g.2.2.2.2.2.2.1, by rw [psT_7.1]; exact h7⟩
theorem psR_1 (h7 : psR Q C n S 4 7 = 0) (hy : y = (n : Int) + 1) : psR Q C y.toNat S = psN Q C n (psR Q C n S) := by
  rw [hy, show ((n : Int) + 1).toNat = n + 1 by omega]
  exact if_pos h7
/-- a sector more -/
theorem pR.N (hI : psI Q n = i) (hU : psU Q n = t) (hm : (Q 3 6).toInt.toNat = m) (h7 : psR Q C n S 4 7 = 0) (g : pR s (psT Q C i t m (psG t (psR Q C n S))) h we x v ou pk tm fo) (gl : pL s (psT Q C i t m (psG t (psR Q C n S))) a b c) (h0 : 0 ≤ i) (his : i < s) (hho : ho = Q 3 4 + psC 0 999 (eV (h i.toNat) (Q 3 2) (C 1))) {k : Nat} (hk : (Q 3 3 + Q 2 ((n : Int) % (Q 0 11).toInt).toNat).toInt.toNat = k) (w : swR (psJ Q fo ho k (psT Q C i t m (psG t (psR Q C n S)))) x' v' pk' tm' sh) (hy : y = (n : Int) + 1) : (∃ f9 : Int32, pR s (psR Q C y.toNat S) h we x' v' ou pk' tm' f9) ∧ pL s (psR Q C y.toNat S) a b c ∧ psR Q C y.toNat S 4 7 = sh ∧ psR Q C y.toNat S 4 8 = t + 1 := by
  have eK := psK_of (C := C) (S := psR Q C n S) hI hU hm
  have e : psR Q C y.toNat S = psJ Q fo ho k (psT Q C i t m (psG t (psR Q C n S))) := by
    rw [psR_1 h7 hy]
    unfold psN
    rw [eK, hI, hk, g.2.2.2.2.2.2.2, g.1 i.toNat (by omega), ← hho]
  rw [e]
  obtain ⟨k1, k2, k3, k4⟩ := psJ_k (Q := Q) (S := psT Q C i t m (psG t (psR Q C n S))) (fo := fo) (ho := ho) (n := k)
  obtain ⟨w1, w2, w3, w4, w5⟩ := w
  refine ⟨⟨_, fun j hj => ?_, ?_, w1, w2, ?_, w3, w4, rfl⟩, fun j hj => ?_, w5, ?_⟩
  · rw [k1 0 (by decide)]; exact g.1 j hj
  · rw [k2]; exact g.2.1
  · rw [k3]; exact g.2.2.2.2.1
  · rw [k1 1 (by decide), k1 2 (by decide), k1 3 (by decide)]; exact gl j hj
  · rw [k4, psT_7.2]; rfl
end PN
/-- what was shaken stays -/
theorem psR_stop {Q S : gS} {C : Nat → List Int} {n : Nat} : ∀ {m : Nat}, n ≤ m → psR Q C n S 4 7 ≠ 0 → psR Q C m S = psR Q C n S
  | 0, h, _ => by rw [show n = 0 by omega]
  | m + 1, h, g => by
    by_cases e : n = m + 1
    · rw [e]
    · have ih := psR_stop (Q := Q) (S := S) (C := C) (m := m) (by omega) g
      show (if psR Q C m S 4 7 = 0 then psN Q C m (psR Q C m S) else psR Q C m S) = _
      rw [ih, if_neg g]
/-- a ring's heights -/
def psHr (h : Nat → Int32) (r s : Int) : Nat → Int32 := fun q => if (q : Int) < s then h (16 * r + (q : Int)).toNat else 0
/-- the class beside a pass: level, gap, stiffness, damping -/
def xRq (G Q : gS) (C : Nat → List Int) (lv ga st da : Int32) : Prop := Q 0 0 = G 18 0 ∧ Q 0 2 = G 18 2 ∧ Q 0 7 = G 18 7 ∧ Q 0 11 = G 18 11 ∧ (∀ q : Nat, (q : Int) < (G 18 11).toInt → Q 2 q = G 18 (30 + q)) ∧ (∀ q : Nat, (q : Int) < xTn G → Q 1 q = xTr G q) ∧ Q 3 0 = lv ∧ Q 3 1 = G 6 3 ∧ Q 3 2 = ga ∧ Q 3 3 = G 6 2 ∧ Q 3 4 = st ∧ Q 3 5 = da ∧ (Q 3 6).toInt = xTn G ∧ C 0 = tkr (G 20) ((G 11 1).toInt).toNat ∧ C 1 = tkr (G 23) ((G 12 1).toInt).toNat ∧ C 2 = tkr (G 26) ((G 13 1).toInt).toNat ∧ gcOK (C 0) ∧ gcOK (C 1) ∧ gcOK (C 2)
