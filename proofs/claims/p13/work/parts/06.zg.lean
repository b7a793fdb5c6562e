/-! the reference's pass beside psR -/
/-- a ring of the reference's heights -/
def yHr (h : Nat → Int32) (r : Int) : Nat → Int32 := fun q => h (16 * r + (q : Int)).toNat
theorem yHr_up {h h' : Nat → Int32} {r p : Int} {pl : Nat} {v : Int32} (hr : 0 ≤ r) (hp : p = 16 * r + (pl : Int)) (hh : h' = upd h p.toNat v) : yHr h' r = upd (yHr h r) pl v := funext fun q => by
  unfold yHr
  rw [hh, hp]
  by_cases e : q = pl
  · rw [e, show upd h (16 * r + (pl : Int)).toNat v (16 * r + (pl : Int)).toNat = v from if_pos rfl]
    exact (if_pos rfl : upd (fun q : Nat => h (16 * r + (q : Int)).toNat) pl v pl = v).symm
  · rw [show upd h (16 * r + (pl : Int)).toNat v (16 * r + (q : Int)).toNat = h (16 * r + (q : Int)).toNat from if_neg (by omega)]
    exact (if_neg e : upd (fun q : Nat => h (16 * r + (q : Int)).toNat) pl v q = h (16 * r + (q : Int)).toNat).symm
/-- the reference's teeth and sums beside the pass -/
def yBq (G Q : gS) (C : Nat → List Int) (t fl : Int32) : Prop := Q 0 0 = G 3 0 ∧ (∀ q : Nat, (q : Int) < (G 3 10).toInt → Q 1 q = G 5 q) ∧ psF Q t = fl ∧ C 0 = mL 0 G ∧ C 2 = mL 2 G ∧ gcOK (C 0) ∧ gcOK (C 2)
/-- who left the places of a ring: those that the pass bit, by the pass; the others as they were -/
def yLf (r s : Int) (S : gS) (ps : Int32) (A0 B0 C0 D0 A B C D : Nat → Int32) : Prop := ∀ q : Nat, (q : Int) < s → (S 1 q = -1 → A (16 * r + (q : Int)).toNat = A0 (16 * r + (q : Int)).toNat ∧ B (16 * r + (q : Int)).toNat = B0 (16 * r + (q : Int)).toNat ∧ C (16 * r + (q : Int)).toNat = C0 (16 * r + (q : Int)).toNat ∧ D (16 * r + (q : Int)).toNat = D0 (16 * r + (q : Int)).toNat) ∧ (S 1 q ≠ -1 → A (16 * r + (q : Int)).toNat = ps ∧ B (16 * r + (q : Int)).toNat = S 1 q ∧ C (16 * r + (q : Int)).toNat = S 2 q ∧ D (16 * r + (q : Int)).toNat = S 3 q)
/-- the reference beside a pass -/
def yRq (G Q : gS) (C : Nat → List Int) (lv fe ga sp st da : Int32) : Prop := Q 0 0 = G 3 0 ∧ Q 0 2 = G 3 2 ∧ Q 0 7 = G 3 7 ∧ Q 0 11 = G 3 11 ∧ (∀ q : Nat, (q : Int) < (G 3 11).toInt → Q 2 q = G 7 q) ∧ (∀ q : Nat, (q : Int) < (G 3 10).toInt → Q 1 q = G 5 q) ∧ Q 3 0 = lv ∧ Q 3 1 = fe ∧ Q 3 2 = ga ∧ Q 3 3 = sp ∧ Q 3 4 = st ∧ Q 3 5 = da ∧ Q 3 6 = G 3 10 ∧ C 0 = mL 0 G ∧ C 1 = mL 1 G ∧ C 2 = mL 2 G ∧ gcOK (C 0) ∧ gcOK (C 1) ∧ gcOK (C 2)
section YL
variable {Q S : gS} {C : Nat → List Int} {r s i : Int} {t ps : Int32} {k : Nat} {y p : Int} {A0 B0 C0 D0 A B C1 D A' B' C' D' : Nat → Int32} {x chip : Int32} {pl : Nat}
theorem yLf.out (g : yLf r s (psT Q C i t k S) ps A0 B0 C0 D0 A B C1 D) (hc : psH Q i t k (psT Q C i t k S) = chip) (h0 : chip.toInt ≤ 0) (hy : y = (k : Int) + 1) : yLf r s (psT Q C i t y.toNat S) ps A0 B0 C0 D0 A B C1 D := by
  have e : psT Q C i t y.toNat S = psO (psT Q C i t k S) := by
    rw [hy, show ((k : Int) + 1).toNat = k + 1 by omega]
    show (if (psH Q i t k (psT Q C i t k S)).toInt ≤ 0 then psO (psT Q C i t k S) else psB Q C i t k (psT Q C i t k S)) = _
    rw [hc, if_pos h0]
  rw [e]
  exact g
theorem yLf.bite (g : yLf r s (psT Q C i t k S) ps A0 B0 C0 D0 A B C1 D) (gx : psT Q C i t k S 4 1 = x) (hc : psH Q i t k (psT Q C i t k S) = chip) (h0 : 0 < chip.toInt) (hp : psP Q i k = pl) (hr : 0 ≤ r) (ht : t ≠ -1) (hpl : p = 16 * r + (pl : Int)) (ha : A' = upd A p.toNat ps) (hb : B' = upd B p.toNat t) (hcc : C' = upd C1 p.toNat (Int32.ofNat k)) (hd : D' = upd D p.toNat x) (hy : y = (k : Int) + 1) : yLf r s (psT Q C i t y.toNat S) ps A0 B0 C0 D0 A' B' C' D' := by
  rw [psT_bite hc h0 hy]
  intro q hq
  obtain ⟨g1, g2⟩ := g q hq
  show (upd (psT Q C i t k S 1) (psP Q i k) t q = -1 → _) ∧ (upd (psT Q C i t k S 1) (psP Q i k) t q ≠ -1 → A' (16 * r + (q : Int)).toNat = ps ∧ B' (16 * r + (q : Int)).toNat = upd (psT Q C i t k S 1) (psP Q i k) t q ∧ C' (16 * r + (q : Int)).toNat = upd (psT Q C i t k S 2) (psP Q i k) (Int32.ofNat k) q ∧ D' (16 * r + (q : Int)).toNat = upd (psT Q C i t k S 3) (psP Q i k) (psT Q C i t k S 4 1) q)
  rw [hp, gx, ha, hb, hcc, hd, hpl]
  by_cases e : q = pl
  · subst e
    have u : ∀ (f : Nat → Int32) (n : Nat) (v : Int32), upd f n v n = v := fun f n v => if_pos rfl
    rw [u, u, u, u, u, u, u]
    exact ⟨fun h => absurd h ht, fun _ => ⟨rfl, rfl, rfl, rfl⟩⟩
  · have u : ∀ (f : Nat → Int32) (v : Int32), upd f pl v q = f q := fun f v => if_neg e
    have w : ∀ (f : Nat → Int32) (v : Int32), upd f (16 * r + (pl : Int)).toNat v (16 * r + (q : Int)).toNat = f (16 * r + (q : Int)).toNat := fun f v => if_neg (by omega)
    rw [u, u, u, w, w, w, w]
    exact ⟨g1, g2⟩
end YL
