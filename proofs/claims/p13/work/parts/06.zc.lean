/-! the teeth of a pass, on both sides -/
theorem i32_ss (a b c : Int32) : a - b - c = a - (b + c) := by
  apply Int32.toBitVec_inj.mp
  show a.toBitVec - b.toBitVec - c.toBitVec = a.toBitVec - (b.toBitVec + c.toBitVec)
  apply BitVec.eq_of_toNat_eq
  simp only [BitVec.toNat_sub, BitVec.toNat_add]
  omega
theorem psC_of {y r : Int32} {lo hi : Int} {e : Int32} (h : y.toInt = max lo (min hi r.toInt)) (hr : r.toInt = e.toInt) : y = psC lo hi e := by
  unfold psC
  rw [← hr, ← h, Int32.ofInt_toInt]
theorem psW_of {y w e : Int32} (h : y.toInt = min 30000 (w.toInt + max 0 (min 30000 e.toInt))) : y = psW w e := by
  unfold psW
  rw [← h, Int32.ofInt_toInt]
theorem psP_of {Q : gS} {i : Int} {k : Nat} {t s : Int32} {r y1 y2 : Int} (hr : r = y1 % y2) (h1 : y1 = i + t.toInt) (h2 : y2 = s.toInt) (ht : Q 1 k = t) (hs : Q 0 0 = s) : psP Q i k = r.toNat := by
  unfold psP
  rw [hr, h1, h2, ht, hs]
/-- a state beside cells: heights, wear, x, v, out, farthest, time, force -/
def pR (s : Int) (S : gS) (h : Nat → Int32) (we x v ou pk tm fo : Int32) : Prop := (∀ i : Nat, (i : Int) < s → S 0 i = h i) ∧ S 4 0 = we ∧ S 4 1 = x ∧ S 4 2 = v ∧ S 4 3 = ou ∧ S 4 4 = pk ∧ S 4 5 = tm ∧ S 4 6 = fo
/-- who left the sectors -/
def pL (s : Int) (S : gS) (a b c : Nat → Int32) : Prop := ∀ i : Nat, (i : Int) < s → S 1 i = a i ∧ (S 1 i ≠ -1 → S 2 i = b i ∧ S 3 i = c i)
section PR
variable {Q S : gS} {C : Nat → List Int} {s i : Int} {t : Int32} {k : Nat} {y : Int} {h h' a b c a' b' c' : Nat → Int32} {we x v ou pk tm fo we' ou' fo' cut chip : Int32} {pl : Nat}
theorem pR.chp (g : pR s (psT Q C i t k S) h we x v ou pk tm fo) (hp : psP Q i k = pl) (hs : (pl : Int) < s) (hc : cut = psF Q t + x) (hh : chip = h pl - cut) : psH Q i t k (psT Q C i t k S) = chip := by
  obtain ⟨g1, g2, g3, -⟩ := g
  unfold psH
  rw [hp, g1 pl hs, g3, hh, hc]
theorem pR.out (g : pR s (psT Q C i t k S) h we x v ou pk tm fo) (hc : psH Q i t k (psT Q C i t k S) = chip) (h0 : chip.toInt ≤ 0) (ho : ou' = ou + 1) (hy : y = (k : Int) + 1) : pR s (psT Q C i t y.toNat S) h we x v ou' pk tm fo := by
  have e : psT Q C i t y.toNat S = psO (psT Q C i t k S) := by
    rw [hy, show ((k : Int) + 1).toNat = k + 1 by omega]
    show (if (psH Q i t k (psT Q C i t k S)).toInt ≤ 0 then psO (psT Q C i t k S) else psB Q C i t k (psT Q C i t k S)) = _
    rw [hc, if_pos h0]
  rw [e]
  obtain ⟨g1, g2, g3, g4, g5, g6, g7, g8⟩ := g
  exact ⟨g1, g2, g3, g4, by rw [ho, ← g5]; rfl, g6, g7, g8⟩
theorem pL.out (g : pL s (psT Q C i t k S) a b c) (hc : psH Q i t k (psT Q C i t k S) = chip) (h0 : chip.toInt ≤ 0) (hy : y = (k : Int) + 1) : pL s (psT Q C i t y.toNat S) a b c := by
  have e : psT Q C i t y.toNat S = psO (psT Q C i t k S) := by
    rw [hy, show ((k : Int) + 1).toNat = k + 1 by omega]
    show (if (psH Q i t k (psT Q C i t k S)).toInt ≤ 0 then psO (psT Q C i t k S) else psB Q C i t k (psT Q C i t k S)) = _
    rw [hc, if_pos h0]
  rw [e]
  exact g
theorem psT_bite (hc : psH Q i t k (psT Q C i t k S) = chip) (h0 : 0 < chip.toInt) (hy : y = (k : Int) + 1) : psT Q C i t y.toNat S = psB Q C i t k (psT Q C i t k S) := by
  rw [hy, show ((k : Int) + 1).toNat = k + 1 by omega]
  show (if (psH Q i t k (psT Q C i t k S)).toInt ≤ 0 then psO (psT Q C i t k S) else psB Q C i t k (psT Q C i t k S)) = _
  rw [hc, if_neg (by omega)]
theorem pR.bite (g : pR s (psT Q C i t k S) h we x v ou pk tm fo) (hc : psH Q i t k (psT Q C i t k S) = chip) (h0 : 0 < chip.toInt) (hp : psP Q i k = pl) (hcut : cut = psF Q t + x) (hh : h' = upd h pl cut) (hf : fo' = fo + psC (-9999) 9999 (eV chip we (C 0))) (hw : we' = psW we (eV chip 0 (C 2))) (hy : y = (k : Int) + 1) (ho : ou' = ou) : pR s (psT Q C i t y.toNat S) h' we' x v ou' pk tm fo' := by
  rw [psT_bite hc h0 hy]
  obtain ⟨g1, g2, g3, g4, g5, g6, g7, g8⟩ := g
  refine ⟨fun j hj => ?_, ?_, g3, g4, by rw [ho]; exact g5, g6, g7, ?_⟩
  · show upd (psT Q C i t k S 0) (psP Q i k) (psF Q t + psT Q C i t k S 4 1) j = h' j
    rw [hp, g3, ← hcut, hh]
    by_cases e : j = pl
    · rw [e, show upd (psT Q C i t k S 0) pl cut pl = cut from if_pos rfl, show upd h pl cut pl = cut from if_pos rfl]
    · rw [show upd (psT Q C i t k S 0) pl cut j = psT Q C i t k S 0 j from if_neg e, show upd h pl cut j = h j from if_neg e]
      exact g1 j hj
  · show psW (psT Q C i t k S 4 0) (eV (psH Q i t k (psT Q C i t k S)) 0 (C 2)) = we'
    rw [hc, g2, hw]
  · show psT Q C i t k S 4 6 + psC (-9999) 9999 (eV (psH Q i t k (psT Q C i t k S)) (psT Q C i t k S 4 0) (C 0)) = fo'
    rw [hc, g2, g8, hf]
theorem pL.bite (g : pL s (psT Q C i t k S) a b c) (gx : psT Q C i t k S 4 1 = x) (hc : psH Q i t k (psT Q C i t k S) = chip) (h0 : 0 < chip.toInt) (hp : psP Q i k = pl) (ha : a' = upd a pl t) (hb : b' = upd b pl (Int32.ofNat k)) (hcc : c' = upd c pl x) (hy : y = (k : Int) + 1) : pL s (psT Q C i t y.toNat S) a' b' c' := by
  rw [psT_bite hc h0 hy]
  intro j hj
  obtain ⟨g1, g2⟩ := g j hj
  show upd (psT Q C i t k S 1) (psP Q i k) t j = a' j ∧ (upd (psT Q C i t k S 1) (psP Q i k) t j ≠ -1 → upd (psT Q C i t k S 2) (psP Q i k) (Int32.ofNat k) j = b' j ∧ upd (psT Q C i t k S 3) (psP Q i k) (psT Q C i t k S 4 1) j = c' j)
  rw [hp, gx, ha, hb, hcc]
  by_cases e : j = pl
  · subst e
    exact ⟨by rw [show upd (psT Q C i t k S 1) j t j = t from if_pos rfl, show upd a j t j = t from if_pos rfl], fun _ => ⟨by rw [show upd (psT Q C i t k S 2) j (Int32.ofNat k) j = Int32.ofNat k from if_pos rfl, show upd b j (Int32.ofNat k) j = Int32.ofNat k from if_pos rfl], by rw [show upd (psT Q C i t k S 3) j x j = x from if_pos rfl, show upd c j x j = x from if_pos rfl]⟩⟩
  · rw [show upd (psT Q C i t k S 1) pl t j = psT Q C i t k S 1 j from if_neg e]
    refine ⟨by rw [show upd a pl t j = a j from if_neg e, g1], fun q => ?_⟩
    obtain ⟨g3, g4⟩ := g2 q
    exact ⟨by rw [show upd (psT Q C i t k S 2) pl (Int32.ofNat k) j = psT Q C i t k S 2 j from if_neg e, show upd b pl (Int32.ofNat k) j = b j from if_neg e, g3], by rw [show upd (psT Q C i t k S 3) pl x j = psT Q C i t k S 3 j from if_neg e, show upd c pl x j = c j from if_neg e, g4]⟩
end PR
theorem i32_nat {x : Int32} (h : 0 ≤ x.toInt) : Int32.ofNat x.toInt.toNat = x := Int32.toInt_inj.mp (by
  have := ti_rng x
  rw [Int32.toInt_ofNat_of_lt (by omega)]
  omega)
/-- the class's teeth and sums beside the pass -/
def xBq (G Q : gS) (C : Nat → List Int) (t fl : Int32) : Prop := Q 0 0 = G 18 0 ∧ (∀ q : Nat, (q : Int) < (G 6 7).toInt → Q 1 q = G 44 q) ∧ psF Q t = fl ∧ C 0 = tkr (G 20) ((G 11 1).toInt).toNat ∧ C 2 = tkr (G 26) ((G 13 1).toInt).toNat ∧ gcOK (C 0) ∧ gcOK (C 2)
