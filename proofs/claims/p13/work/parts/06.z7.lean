/-! the text's automaton: a token of a clause -/
section HN
variable {ts : List hTk} {c cnt lat cl : Int} {td : Nat → Int} {nu : Nat → Int32} {sg : Nat → sSt} {k pl v ci : Int}
abbrev hCl (c cnt k v : Int) : Prop := k = 3 ∧ v = 59 ∧ ((c = 8 ∨ c = 9) ∧ 0 < cnt ∨ ¬ (c = 8 ∨ c = 9) ∧ cnt = hMo c)
abbrev hOut (c cnt lat v : Int) : Prop := v < hLo c ∨ hHi c < v ∨ (¬ (c = 8 ∨ c = 9) ∧ cnt = 1 ∧ (v < lat ∨ lat + 3 < v))
theorem hO_nE (h0 : 0 ≤ c) (h9 : c ≤ 9) (h : hCl c cnt k v) : hO ((k, pl, v, ci) :: ts) c cnt lat cl td nu sg = hO ts (-1) cnt lat (cl + 1) td (if c = 8 then upd nu 10 (Int32.ofInt cnt) else if c = 9 then upd nu 11 (Int32.ofInt cnt) else nu) sg := by
  conv => lhs; unfold hO
  rw [if_neg (show ¬ c = -1 by omega), if_neg (show ¬ 10 ≤ c by omega), if_pos h]
theorem hO_n1 (h0 : 0 ≤ c) (h9 : c ≤ 9) (hn : ¬ hCl c cnt k v) (h : k ≠ 2 ∨ (¬ (c = 8 ∨ c = 9) ∧ cnt = hMo c)) : hO ((k, pl, v, ci) :: ts) c cnt lat cl td nu sg = hBad 1 pl := by
  conv => lhs; unfold hO
  rw [if_neg (show ¬ c = -1 by omega), if_neg (show ¬ 10 ≤ c by omega), if_neg hn, if_pos h]
theorem hO_n2 (h0 : 0 ≤ c) (h9 : c ≤ 9) (hk : k = 2) (h : ¬ (¬ (c = 8 ∨ c = 9) ∧ cnt = hMo c)) (ho : hOut c cnt lat v) : hO ((k, pl, v, ci) :: ts) c cnt lat cl td nu sg = hBad 2 pl := by
  conv => lhs; unfold hO
  rw [if_neg (show ¬ c = -1 by omega), if_neg (show ¬ 10 ≤ c by omega), if_neg (fun q => by have := q.1; simp only at this; omega), if_neg (fun q => q.elim (fun q => q hk) h), if_pos ho]
theorem hO_n4 (h0 : 0 ≤ c) (h9 : c ≤ 9) (hk : k = 2) (h : ¬ (¬ (c = 8 ∨ c = 9) ∧ cnt = hMo c)) (ho : ¬ hOut c cnt lat v) (hm : cnt = hMo c) : hO ((k, pl, v, ci) :: ts) c cnt lat cl td nu sg = hBad 4 pl := by
  conv => lhs; unfold hO
  rw [if_neg (show ¬ c = -1 by omega), if_neg (show ¬ 10 ≤ c by omega), if_neg (fun q => by have := q.1; simp only at this; omega), if_neg (fun q => q.elim (fun q => q hk) h), if_neg ho, if_pos hm]
theorem hO_nP (h0 : 0 ≤ c) (h9 : c ≤ 9) (hk : k = 2) (ho : ¬ hOut c cnt lat v) (hm : cnt ≠ hMo c) : hO ((k, pl, v, ci) :: ts) c cnt lat cl td nu sg = hO ts c (cnt + 1) v cl td (upd nu (hSl c + cnt).toNat (Int32.ofInt v)) sg := by
  conv => lhs; unfold hO
  rw [if_neg (show ¬ c = -1 by omega), if_neg (show ¬ 10 ≤ c by omega), if_neg (fun q => by have := q.1; simp only at this; omega), if_neg (fun q => q.elim (fun q => q hk) (fun q => hm q.2)), if_neg ho, if_neg hm]
theorem hO_w1 (hc : c = -1) (hk : k ≠ 0) (hi : ci = -1) : hO ((k, pl, v, ci) :: ts) c cnt lat cl td nu sg = hBad 1 pl := by
  conv => lhs; unfold hO
  rw [if_pos hc, if_neg hk, if_pos hi]
theorem hO_w3 (hc : c = -1) (hk : k ≠ 0) (hi : ci ≠ -1) (ht : td ci.toNat ≠ 0) : hO ((k, pl, v, ci) :: ts) c cnt lat cl td nu sg = hBad 3 pl := by
  conv => lhs; unfold hO
  rw [if_pos hc, if_neg hk, if_neg hi, if_pos ht]
theorem hO_wd (hc : c = -1) (hk : k ≠ 0) (hi : ci ≠ -1) (ht : td ci.toNat = 0) : hO ((k, pl, v, ci) :: ts) c cnt lat cl td nu sg = hO ts ci 0 lat cl (updI td ci.toNat 1) nu (if 10 ≤ ci then updS sg (ci - 10).toNat (1, [], 0, 0, 0, []) else sg) := by
  conv => lhs; unfold hO
  rw [if_pos hc, if_neg hk, if_neg hi, if_neg (fun q => q ht)]
theorem hO_end (hc : c = -1) (hk : k = 0) : hO ((k, pl, v, ci) :: ts) c cnt lat cl td nu sg = (0, -1, cl, nu, (sg 0).2.2.2.2.2, (sg 1).2.2.2.2.2, (sg 2).2.2.2.2.2) := by
  conv => lhs; unfold hO
  rw [if_pos hc, if_pos hk]
/-- of a token that is none the value is nothing -/
theorem hO_v {v' : Int} (hk : k = 0 ∨ k = 4) : hO ((k, pl, v, ci) :: ts) c cnt lat cl td nu sg = hO ((k, pl, v', ci) :: ts) c cnt lat cl td nu sg := by
  have n2 : k ≠ 2 := by omega
  have n3 : k ≠ 3 := by omega
  have n1 : k ≠ 1 := by omega
  have es : ∀ (i : Int) (s : sSt), sTt i k v s = sTt i k v' s := fun i s => by
    unfold sTt sT
    simp only [n1, n2, n3, false_and, if_false]
  conv => lhs; unfold hO
  conv => rhs; unfold hO
  simp only [es, n2, n3, false_and, if_false, ne_eq, not_false_eq_true, true_or, if_true]
end HN
def hU (k : Nat) : Int32 := if k < 12 then gz_untold k else 0
theorem untold_36 {f : Nat → Int32} (z : ∀ q : Nat, q < 36 → f q = 0) : ∀ q : Nat, q < 36 → va_cpy gz_untold f 0 0 12 q = hU q := fun q hq => by
  unfold va_cpy hU
  by_cases e : q < 12
  · rw [if_pos (by omega), if_pos e]
    congr 1
    omega
  · rw [if_neg (by omega), if_neg e, z q hq]
/-- what a number does that is looked for and is none, or out of its bounds -/
def yLk (lo hi : Int) (G G2 : gS) : Prop := (G2 0 9).toInt = (G 0 4).toInt ∧ (((G 0 6).toInt ≠ 2 ∧ (G2 0 8).toInt = 1) ∨ ((G 0 6).toInt = 2 ∧ ((G 0 7).toInt < lo ∨ hi < (G 0 7).toInt) ∧ (G2 0 8).toInt = 2))
