/-- the time of a pass: what timeOf sums up -/
def yTa (rl sw : Nat → Int32) (sp : Int32) : Nat → Int32
  | 0 => 0
  | n + 1 => yTa rl sw sp n + (sp + sw ((n : Int) % (rl 11).toInt).toNat)
def yT (rl sw : Nat → Int32) (sp : Int) : Int32 := yTa rl sw (Int32.ofInt sp) (rl 0 * rl 9).toInt.toNat
theorem ti_of {x : Int32} {a : Int} (h : x.toInt = a) : x = Int32.ofInt a := by rw [← h, Int32.ofInt_toInt]
theorem yTa_1 {rl sw : Nat → Int32} {sp x : Int32} {n m : Int} (h0 : 0 ≤ n) (hm : m = n % (rl 11).toInt) (hx : x = yTa rl sw sp n.toNat) : x + (sp + sw m.toNat) = yTa rl sw sp (n.toNat + 1) := by
  show _ = yTa rl sw sp n.toNat + (sp + sw ((n.toNat : Int) % (rl 11).toInt).toNat)
  rw [show ((n.toNat : Nat) : Int) = n by omega, ← hm, hx]
theorem yTa_tm {rl sw : Nat → Int32} {Q : gS} {s : Int} (h0 : 0 ≤ s) (h9 : s ≤ 9) (hm : Q 0 11 = rl 11) (m0 : 1 ≤ (rl 11).toInt) (hs : ∀ q : Nat, (q : Int) < (rl 11).toInt → Q 2 q = sw q) (hb : ∀ q : Nat, 0 ≤ (sw q).toInt ∧ (sw q).toInt ≤ 9) : ∀ n : Nat, n ≤ 192 → (yTa rl sw (Int32.ofInt s) n).toInt = tmA Q s n ∧ 0 ≤ tmA Q s n ∧ tmA Q s n ≤ 18 * (n : Int)
  | 0, _ => ⟨(by show Int32.toInt 0 = 0; decide), Int.le_refl _, by show (0 : Int) ≤ 18 * ((0 : Nat) : Int); omega⟩
  | n + 1, h => by
    obtain ⟨i1, i2, i3⟩ := yTa_tm h0 h9 hm m0 hs hb n (by omega)
    have k1 := Int.emod_nonneg (n : Int) (show (rl 11).toInt ≠ 0 by omega)
    have k2 := Int.emod_lt_of_pos (n : Int) (show 0 < (rl 11).toInt by omega)
    have e := hs ((n : Int) % (rl 11).toInt).toNat (by omega)
    have b := hb ((n : Int) % (rl 11).toInt).toNat
    have es : (Int32.ofInt s).toInt = s := by rw [Int32.toInt_ofInt]; exact ti_bm (by omega) (by omega)
    have a1 : (Int32.ofInt s + sw ((n : Int) % (rl 11).toInt).toNat).toInt = s + (sw ((n : Int) % (rl 11).toInt).toNat).toInt := ti_add es rfl (by omega) (by omega)
    have a2 := ti_add i1 a1 (by omega) (by omega)
    show (yTa rl sw (Int32.ofInt s) n + (Int32.ofInt s + sw ((n : Int) % (rl 11).toInt).toNat)).toInt = tmA Q s n + (s + (Q 2 ((n : Int) % (Q 0 11).toInt).toNat).toInt) ∧ 0 ≤ tmA Q s n + (s + (Q 2 ((n : Int) % (Q 0 11).toInt).toNat).toInt) ∧ tmA Q s n + (s + (Q 2 ((n : Int) % (Q 0 11).toInt).toNat).toInt) ≤ 18 * ((n + 1 : Nat) : Int)
    rw [hm, e, a2]
    exact ⟨rfl, by omega, by omega⟩
theorem yT_n {G : gS} (hI : yI G) : (G 3 0 * G 3 9).toInt = (G 3 0).toInt * (G 3 9).toInt ∧ 4 ≤ (G 3 0 * G 3 9).toInt ∧ (G 3 0 * G 3 9).toInt ≤ 192 := by
  have b0 : (4 : Int) ≤ (G 3 0).toInt ∧ (G 3 0).toInt ≤ 16 := hI 3 0
  have b9 : (1 : Int) ≤ (G 3 9).toInt ∧ (G 3 9).toInt ≤ 12 := hI 3 9
  have h := tmSw_n (x := G 3 0) (y := G 3 9) (p := 1) (s := 1) rfl (by omega) (by omega) (by omega) (by omega) (by omega) (by omega)
  exact ⟨h.1, h.2.1, h.2.2.1⟩
theorem yT_tm {G Q : gS} {C : Nat → List Int} (hI : yI G) (hq : ySq G Q C) {s : Int} (h0 : 0 ≤ s) (h9 : s ≤ 9) : (yT (G 3) (G 7) s).toInt = tmT Q s := by
  have b1 : (1 : Int) ≤ (G 3 11).toInt ∧ (G 3 11).toInt ≤ 6 := hI 3 11
  obtain ⟨n1, n2, n3⟩ := yT_n hI
  unfold yT tmT tmN
  rw [hq.1 0 (by decide) (by decide), hq.1 9 (by decide) (by decide), ← n1]
  exact (yTa_tm h0 h9 (hq.1 11 (by decide) (by decide)) b1.1 hq.2.1 (fun q => hI 7 q) _ (by omega)).1
theorem yT_b {G : gS} (hI : yI G) {s : Int} (h0 : 0 ≤ s) (h9 : s ≤ 9) : 0 ≤ (yT (G 3) (G 7) s).toInt ∧ (yT (G 3) (G 7) s).toInt ≤ 3456 := by
  have b1 : (1 : Int) ≤ (G 3 11).toInt ∧ (G 3 11).toInt ≤ 6 := hI 3 11
  obtain ⟨n1, n2, n3⟩ := yT_n hI
  have h := yTa_tm (rl := G 3) (sw := G 7) (Q := fun j => if j = 0 then G 3 else G 7) (s := s) h0 h9 rfl b1.1 (fun q _ => rfl) (fun q => hI 7 q) (G 3 0 * G 3 9).toInt.toNat (by omega)
  unfold yT
  omega
