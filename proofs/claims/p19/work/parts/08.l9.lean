section YO9
variable {P : Int → Int → Prop} {T : Int → Int} {q a b : Nat → Int32} {n : Int}
/-- what isOn tells -/
theorem yOn_9 {rl sw : Nat → Int32} {m o : Int} (hQ : yQ9 P q n) (hB : yB9 a b o.toNat) (hn : o ≤ n) (h0 : 1 ≤ o) (h4 : o ≤ 400) (hm : 21 ≤ m) (hm2 : m ≤ 200) (ho : yT9 a b o.toNat ≠ -1) (hT : (yT rl sw ((m - 1) / 20)).toInt = T ((m - 1) / 20)) (ht : 0 ≤ (yT rl sw ((m - 1) / 20)).toInt ∧ (yT rl sw ((m - 1) / 20)).toInt ≤ 3456) : yOn rl sw q a b o ((m - 1) % 20 + 1) ((m - 1) / 20) ↔ plOn P T (yT9 a b) o m := by
  have fb := plF_b (m := m)
  have ef : (m - 1) % 20 + 1 = plF m := rfl
  rw [ef]
  have l := hQ ((m - 1) / 20) (plF m) (by omega) (by omega) (by omega) (by omega)
  have v2 := yT9_v (a := a) (b := b) (u := o.toNat)
  have b2 := hB o.toNat (Nat.le_refl _)
  unfold yOn plOn
  by_cases c : plF m ≤ o
  · have v1 := yT9_v (a := a) (b := b) (u := (o - plF m).toNat)
    have b1 := hB (o - plF m).toNat (by omega)
    by_cases d : (a (o - plF m).toNat).toInt < 1000000000
    · have sm := y9_sum (v := yT rl sw ((m - 1) / 20)) (tm := yT rl sw ((m - 1) / 20)) hB (show (o - plF m).toNat ≤ o.toNat by omega) (by omega) ht d
      rw [sm.1, sm.2, l]
      constructor
      · rintro ⟨h1, h2, h3, h4, h5⟩
        exact ⟨hm, hm2, h1, h2.2, by omega, by omega⟩
      · rintro ⟨h1, h2, h3, h4, h5, h6⟩
        exact ⟨h3, ⟨by omega, h4⟩, d, by omega, by omega⟩
    · constructor
      · rintro ⟨h1, h2, h3, h4, h5⟩
        exact absurd h3 d
      · rintro ⟨h1, h2, h3, h4, h5, h6⟩
        omega
  · constructor
    · rintro ⟨h1, h2⟩
      exact absurd h1 c
    · rintro ⟨h1, h2, h3, h4⟩
      exact absurd h3 c
end YO9
