/-- marks of a sum: how many stand on the pile behind m of them, from place b on; none: they can't be done -/
def rpf (kd vl : Nat → Int32) (b : Nat) (d0 : Nat) : Nat → Option Nat
  | 0 => some d0
  | m + 1 => match rpf kd vl b d0 m with
    | none => none
    | some d => if (kd (b + m)).toInt ≠ 2 then some (d + 1) else if (vl (b + m)).toInt = 33 then (if 1 ≤ d then some d else none) else (if 2 ≤ d then some (d - 1) else none)
def rpk (kd vl : Nat → Int32) (b k : Int) : Option Nat := rpf kd vl b.toNat 0 (k - b).toNat
theorem rpf_some {kd vl : Nat → Int32} {b d0 : Nat} {m n : Nat} (h : rpf kd vl b d0 n ≠ none) (hm : m ≤ n) : rpf kd vl b d0 m ≠ none := by
  induction n with
  | zero => obtain rfl : m = 0 := by omega
            exact h
  | succ n ih =>
    by_cases e : m = n + 1
    · subst e; exact h
    · refine ih (fun q => h ?_) (by omega)
      unfold rpf
      rw [q]
theorem rpk_0 {kd vl : Nat → Int32} {b : Int} : rpk kd vl b b = some 0 := by
  unfold rpk
  rw [Int.sub_self]
  rfl
theorem rpk_step {kd vl : Nat → Int32} {b k : Int} {d : Nat} (hb : 0 ≤ b) (hk : b ≤ k) (h : rpk kd vl b k = some d) (hn : rpk kd vl b (k + 1) ≠ none) :
    ((kd k.toNat).toInt ≠ 2 ∧ rpk kd vl b (k + 1) = some (d + 1)) ∨ ((kd k.toNat).toInt = 2 ∧ (vl k.toNat).toInt = 33 ∧ 1 ≤ d ∧ rpk kd vl b (k + 1) = some d) ∨ ((kd k.toNat).toInt = 2 ∧ (vl k.toNat).toInt ≠ 33 ∧ 2 ≤ d ∧ rpk kd vl b (k + 1) = some (d - 1)) := by
  unfold rpk at *
  have e1 : (k + 1 - b).toNat = (k - b).toNat + 1 := by omega
  have e2 : b.toNat + (k - b).toNat = k.toNat := by omega
  rw [e1] at hn ⊢
  have e3 : rpf kd vl b.toNat 0 ((k - b).toNat + 1) = if (kd k.toNat).toInt ≠ 2 then some (d + 1) else if (vl k.toNat).toInt = 33 then (if 1 ≤ d then some d else none) else (if 2 ≤ d then some (d - 1) else none) := by
    conv => lhs; unfold rpf
    rw [h, e2]
  rw [e3] at hn ⊢
  by_cases h1 : (kd k.toNat).toInt ≠ 2
  · left
    exact ⟨h1, by rw [if_pos h1]⟩
  · rw [if_neg h1] at hn ⊢
    have h1' : (kd k.toNat).toInt = 2 := by omega
    right
    by_cases h2 : (vl k.toNat).toInt = 33
    · left
      rw [if_pos h2] at hn ⊢
      by_cases h3 : 1 ≤ d
      · exact ⟨h1', h2, h3, by rw [if_pos h3]⟩
      · rw [if_neg h3] at hn; exact absurd rfl hn
    · right
      rw [if_neg h2] at hn ⊢
      by_cases h3 : 2 ≤ d
      · exact ⟨h1', h2, h3, by rw [if_pos h3]⟩
      · rw [if_neg h3] at hn; exact absurd rfl hn
/-- the marks of the three sums can be done -/
def yWf (kd vl mk : Nat → Int32) (w : Int) : Prop := rpk kd vl (80 * w) (80 * w + (mk w.toNat).toInt) ≠ none
def yW3 (G : gS) : Prop := ∀ w : Int, 0 ≤ w → w ≤ 2 → yWf (G 10) (G 11) (G 12) w
theorem yW3.at {G : gS} (h : yW3 G) {w k : Int} (h0 : 0 ≤ w) (h2 : w ≤ 2) (hk : 80 * w ≤ k) (hk2 : k < 80 * w + (G 12 w.toNat).toInt) : rpk (G 10) (G 11) (80 * w) (k + 1) ≠ none := by
  have h9 := h w h0 h2
  unfold yWf rpk at h9
  unfold rpk
  exact rpf_some h9 (by omega)
theorem yW3.un {G G1 : gS} {L : List Nat} (h : yW3 G) (hU : gu_un ycd L G G1) (hL : (L.contains 1000 || L.contains 1100 || L.contains 1200) = false) : yW3 G1 := by
  have hm : ∀ n : Nat, L.contains n = false → n ∉ L := by
    intro n h1 h2
    rw [List.contains_iff_mem.mpr h2] at h1
    cases h1
  simp only [Bool.or_eq_false_iff] at hL
  have e1 : G1 10 = G 10 := funext fun k => hU 10 k (hm 1000 hL.1.1)
  have e2 : G1 11 = G 11 := funext fun k => hU 11 k (hm 1100 hL.1.2)
  have e3 : G1 12 = G 12 := funext fun k => hU 12 k (hm 1200 hL.2)
  intro w h0 h2
  rw [e1, e2, e3]
  exact h w h0 h2
