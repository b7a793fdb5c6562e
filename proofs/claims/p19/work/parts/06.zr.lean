/-! plans, as the reference finds them: speed by speed, feed by feed -/
def plV (P : Int → Int → Prop) (T : Int → Int) (t : Nat → Int) (u : Nat) (s f v : Int) : Prop := ∃ (s' f' : Int), 1 ≤ s' ∧ s' ≤ 9 ∧ 1 ≤ f' ∧ f' ≤ 20 ∧ f' ≤ (u : Int) ∧ P s' f' ∧ t (u - f'.toNat) ≠ -1 ∧ v = 1000 * T s' + 1 + t (u - f'.toNat) ∧ (s' < s ∨ (s' = s ∧ f' < f))
def plA (P : Int → Int → Prop) (T : Int → Int) (t : Nat → Int) (u : Nat) (s f x : Int) : Prop := (x = -1 ∧ ∀ v : Int, ¬ plV P T t u s f v) ∨ (x ≠ -1 ∧ plV P T t u s f x ∧ ∀ v : Int, plV P T t u s f v → x ≤ v)
section PA
variable {P : Int → Int → Prop} {T : Int → Int} {t t' : Nat → Int} {u : Nat} {s f x y : Int}
theorem plV.eq {v : Int} (e : ∀ k : Nat, k < u → t k = t' k) (h : plV P T t u s f v) : plV P T t' u s f v := by
  obtain ⟨s', f', h1, h2, h3, h4, h5, h6, h7, h8, h9⟩ := h
  have q := e (u - f'.toNat) (by omega)
  exact ⟨s', f', h1, h2, h3, h4, h5, h6, by rw [← q]; exact h7, by rw [← q]; exact h8, h9⟩
theorem plA.eq (e : ∀ k : Nat, k < u → t k = t' k) (h : plA P T t u s f x) : plA P T t' u s f x := by
  rcases h with ⟨a1, a2⟩ | ⟨a1, a2, a3⟩
  · exact Or.inl ⟨a1, fun v hv => a2 v (hv.eq fun k hk => (e k hk).symm)⟩
  · exact Or.inr ⟨a1, a2.eq e, fun v hv => a3 v (hv.eq fun k hk => (e k hk).symm)⟩
theorem plA.zero : plA P T t u 1 1 (-1) := Or.inl ⟨rfl, fun v hv => by
  obtain ⟨s', f', h1, h2, h3, h4, h5, h6, h7, h8, h9⟩ := hv
  omega⟩
theorem plA.row (h : plA P T t u s 21 x) (hy : y = s + 1) : plA P T t u y 1 x := by
  have k : ∀ v : Int, plV P T t u y 1 v ↔ plV P T t u s 21 v := fun v => by
    constructor
    · rintro ⟨s', f', h1, h2, h3, h4, h5, h6, h7, h8, h9⟩
      exact ⟨s', f', h1, h2, h3, h4, h5, h6, h7, h8, by omega⟩
    · rintro ⟨s', f', h1, h2, h3, h4, h5, h6, h7, h8, h9⟩
      exact ⟨s', f', h1, h2, h3, h4, h5, h6, h7, h8, by omega⟩
  rcases h with ⟨a1, a2⟩ | ⟨a1, a2, a3⟩
  · exact Or.inl ⟨a1, fun v hv => a2 v ((k v).mp hv)⟩
  · exact Or.inr ⟨a1, (k x).mpr a2, fun v hv => a3 v ((k v).mp hv)⟩
/-- one feed more -/
theorem plA.go {x' : Int} (h : plA P T t u s f x) (s1 : 1 ≤ s) (s9 : s ≤ 9) (f1 : 1 ≤ f) (f20 : f ≤ 20) (hy : y = f + 1) (hn : t (u - f.toNat) ≠ -1 → 1000 * T s + 1 + t (u - f.toNat) ≠ -1) (h' : (¬ (f ≤ (u : Int) ∧ P s f ∧ t (u - f.toNat) ≠ -1) ∧ x' = x) ∨ ((f ≤ (u : Int) ∧ P s f ∧ t (u - f.toNat) ≠ -1) ∧ ((x ≠ -1 ∧ x ≤ 1000 * T s + 1 + t (u - f.toNat) ∧ x' = x) ∨ ((x = -1 ∨ 1000 * T s + 1 + t (u - f.toNat) < x) ∧ x' = 1000 * T s + 1 + t (u - f.toNat))))) : plA P T t u s y x' := by
  have k : ∀ v : Int, plV P T t u s y v → plV P T t u s f v ∨ ((f ≤ (u : Int) ∧ P s f ∧ t (u - f.toNat) ≠ -1) ∧ v = 1000 * T s + 1 + t (u - f.toNat)) := by
    rintro v ⟨s', f', h1, h2, h3, h4, h5, h6, h7, h8, h9⟩
    by_cases c : s' = s ∧ f' = f
    · obtain ⟨rfl, rfl⟩ := c
      exact Or.inr ⟨⟨h5, h6, h7⟩, h8⟩
    · exact Or.inl ⟨s', f', h1, h2, h3, h4, h5, h6, h7, h8, by omega⟩
  have up : ∀ v : Int, plV P T t u s f v → plV P T t u s y v := by
    rintro v ⟨s', f', h1, h2, h3, h4, h5, h6, h7, h8, h9⟩
    exact ⟨s', f', h1, h2, h3, h4, h5, h6, h7, h8, by omega⟩
  rcases h' with ⟨c1, c2⟩ | ⟨c1, c2⟩
  · rw [c2]
    rcases h with ⟨a1, a2⟩ | ⟨a1, a2, a3⟩
    · refine Or.inl ⟨a1, fun v hv => ?_⟩
      rcases k v hv with q | ⟨q, -⟩
      · exact a2 v q
      · exact c1 q
    · refine Or.inr ⟨a1, up _ a2, fun v hv => ?_⟩
      rcases k v hv with q | ⟨q, -⟩
      · exact a3 v q
      · exact absurd q c1
  · have new : plV P T t u s y (1000 * T s + 1 + t (u - f.toNat)) := ⟨s, f, s1, s9, f1, f20, c1.1, c1.2.1, c1.2.2, rfl, by omega⟩
    have nn := hn c1.2.2
    rcases c2 with ⟨d1, d2, d3⟩ | ⟨d1, d2⟩
    · rw [d3]
      rcases h with ⟨a1, a2⟩ | ⟨a1, a2, a3⟩
      · exact absurd a1 d1
      · refine Or.inr ⟨a1, up _ a2, fun v hv => ?_⟩
        rcases k v hv with q | ⟨-, q⟩
        · exact a3 v q
        · omega
    · rw [d2]
      refine Or.inr ⟨nn, new, fun v hv => ?_⟩
      rcases k v hv with q | ⟨-, q⟩
      · rcases h with ⟨a1, a2⟩ | ⟨a1, a2, a3⟩
        · exact absurd q (a2 v)
        · have w := a3 v q
          omega
      · omega
theorem plV_O {v : Int} : plV P T t u 10 1 v ↔ plO P T t u v := by
  constructor
  · rintro ⟨s', f', h1, h2, h3, h4, h5, h6, h7, h8, h9⟩
    exact ⟨s', f'.toNat, h1, h2, by omega, by omega, by omega, by rw [show ((f'.toNat : Nat) : Int) = f' by omega]; exact h6, h7, h8⟩
  · rintro ⟨s', f', h1, h2, h3, h4, h5, h6, h7, h8⟩
    exact ⟨s', (f' : Int), h1, h2, by omega, by omega, by omega, h6, h7, h8, Or.inl (by omega)⟩
/-- all of them: one depth more -/
theorem plK.go {n : Nat} (h : plK P T t n) (hu : u = n + 1) (ha : plA P T t u 10 1 (t u)) : plK P T t u := by
  refine ⟨h.1, fun w h1 h2 => ?_⟩
  by_cases c : w ≤ n
  · exact h.2 w h1 c
  · obtain rfl : w = u := by omega
    rcases ha with ⟨a1, a2⟩ | ⟨a1, a2, a3⟩
    · exact Or.inl ⟨a1, fun v hv => a2 v (plV_O.mpr hv)⟩
    · exact Or.inr ⟨a1, plV_O.mp a2, fun v hv => a3 v (plV_O.mpr hv)⟩
theorem plK.cg {n : Nat} (e : ∀ k : Nat, k ≤ n → t k = t' k) (h : plK P T t n) : plK P T t' n := by
  refine ⟨(e 0 (by omega)).symm.trans h.1, fun w h1 h2 => ?_⟩
  have q := e w h2
  have e1 : ∀ k : Nat, k < w → t k = t' k := fun k hk => e k (by omega)
  have e2 : ∀ k : Nat, k < w → t' k = t k := fun k hk => (e1 k hk).symm
  rcases h.2 w h1 h2 with ⟨a1, a2⟩ | ⟨a1, a2, a3⟩
  · exact Or.inl ⟨by omega, fun v hv => a2 v (hv.eq e2)⟩
  · exact Or.inr ⟨by omega, by rw [← q]; exact a2.eq e1, fun v hv => by rw [← q]; exact a3 v (hv.eq e2)⟩
end PA
/-! the reference's rows of times and passes -/
def yT9 (a b : Nat → Int32) : Nat → Int := fun u => if (a u).toInt < 1000000000 then 1000 * (a u).toInt + (b u).toInt else -1
def yB9 (a b : Nat → Int32) (n : Nat) : Prop := ∀ u : Nat, u ≤ n → ((a u).toInt = 1000000000 ∧ (b u).toInt = 1000000000) ∨ (0 ≤ (a u).toInt ∧ (a u).toInt ≤ 3456 * (u : Int) ∧ 0 ≤ (b u).toInt ∧ (b u).toInt ≤ (u : Int))
theorem yT9_v {a b : Nat → Int32} {u : Nat} : ((a u).toInt < 1000000000 ∧ yT9 a b u = 1000 * (a u).toInt + (b u).toInt) ∨ (1000000000 ≤ (a u).toInt ∧ yT9 a b u = -1) := by
  unfold yT9
  by_cases c : (a u).toInt < 1000000000
  · exact Or.inl ⟨c, if_pos c⟩
  · exact Or.inr ⟨by omega, if_neg c⟩
/-- what is told of the passes that are quiet for all -/
def yQ9 (P : Int → Int → Prop) (q : Nat → Int32) (n : Int) : Prop := ∀ s f : Int, 1 ≤ s → s ≤ 9 → 1 ≤ f → f ≤ 20 → ((q (21 * s + f).toNat).toInt ≠ 0 ↔ (f ≤ n ∧ P s f))
section YP
variable {P : Int → Int → Prop} {T : Int → Int} {q a b a' b' : Nat → Int32} {n : Int} {u : Nat} {s f x y : Int} {tm : Int32}
theorem yT9_up {u k : Nat} {va vb : Int32} (hk : k ≠ u) : yT9 (upd a u va) (upd b u vb) k = yT9 a b k := by
  unfold yT9 upd
  rw [if_neg hk, if_neg hk]
/-- a depth is begun -/
theorem y9_new {N : Nat} (hK : plK P T (yT9 a b) N) (hB : yB9 a b N) (hu : u = N + 1) : plK P T (yT9 (upd a u 1000000000) (upd b u 1000000000)) N ∧ yB9 (upd a u 1000000000) (upd b u 1000000000) u ∧ plA P T (yT9 (upd a u 1000000000) (upd b u 1000000000)) u 1 1 (yT9 (upd a u 1000000000) (upd b u 1000000000) u) := by
  refine ⟨hK.cg (fun k hk => (yT9_up (by omega)).symm), fun k hk => ?_, ?_⟩
  · by_cases e : k = u
    · subst e
      exact Or.inl ⟨by rw [show upd a k 1000000000 k = 1000000000 from if_pos rfl]; rfl, by rw [show upd b k 1000000000 k = 1000000000 from if_pos rfl]; rfl⟩
    · rw [show upd a u 1000000000 k = a k from if_neg e, show upd b u 1000000000 k = b k from if_neg e]
      exact hB k (by omega)
  · have e : yT9 (upd a u 1000000000) (upd b u 1000000000) u = -1 := by
      unfold yT9
      rw [show upd a u 1000000000 u = 1000000000 from if_pos rfl, if_neg (by decide)]
    rw [e]
    exact plA.zero
/-- what goesBy compares -/
def yGo (q a b : Nat → Int32) (tm : Int32) (u s f t m : Int) : Prop := f ≤ u ∧ (q (21 * s + f).toNat).toInt ≠ 0 ∧ (a (u - f).toNat).toInt < 1000000000 ∧ ((tm + a (u - f).toNat).toInt < t ∨ ((tm + a (u - f).toNat).toInt = t ∧ (1 + b (u - f).toNat).toInt < m))
theorem y9_sum {v : Int32} {k : Nat} (hB : yB9 a b u) (hk : k ≤ u) (h4 : u ≤ 400) (ht : 0 ≤ tm.toInt ∧ tm.toInt ≤ 3456) (hl : (a k).toInt < 1000000000) : (tm + a k).toInt = tm.toInt + (a k).toInt ∧ (1 + b k).toInt = 1 + (b k).toInt := by
  rcases hB k hk with ⟨c1, c2⟩ | ⟨c1, c2, c3, c4⟩
  · omega
  · exact ⟨ti_add rfl rfl (by omega) (by omega), ti_add rfl rfl (by omega) (by omega)⟩
theorem y9_no {U : Int} (hU : (u : Int) = U) (hQ : yQ9 P q n) (hB : yB9 a b u) (hn : (u : Int) ≤ n) (h4 : u ≤ 400) (hA : plA P T (yT9 a b) u s f (yT9 a b u)) (s1 : 1 ≤ s) (s9 : s ≤ 9) (f1 : 1 ≤ f) (f20 : f ≤ 20) (hT : tm.toInt = T s) (ht : 0 ≤ tm.toInt ∧ tm.toInt ≤ 3456) (hy : y = f + 1) (hg : ¬ yGo q a b tm U s f (a u).toInt (b u).toInt) : plA P T (yT9 a b) u s y (yT9 a b u) := by
  subst hU
  have l := hQ s f s1 s9 f1 f20
  by_cases o : f ≤ (u : Int) ∧ P s f ∧ yT9 a b (u - f.toNat) ≠ -1
  · have ix : ((u : Int) - f).toNat = u - f.toNat := by omega
    have v1 := yT9_v (a := a) (b := b) (u := u - f.toNat)
    have v2 := yT9_v (a := a) (b := b) (u := u)
    have b1 := hB (u - f.toNat) (by omega)
    have b2 := hB u (Nat.le_refl _)
    have lt : (a (u - f.toNat)).toInt < 1000000000 := by
      have k := o.2.2
      omega
    have sm := y9_sum (v := tm) (tm := tm) hB (show u - f.toNat ≤ u by omega) h4 ht lt
    have ng : ¬ ((tm.toInt + (a (u - f.toNat)).toInt < (a u).toInt) ∨ (tm.toInt + (a (u - f.toNat)).toInt = (a u).toInt ∧ 1 + (b (u - f.toNat)).toInt < (b u).toInt)) := fun c => hg ⟨o.1, l.mpr ⟨by omega, o.2.1⟩, by rw [ix]; exact lt, by rw [ix, sm.1, sm.2]; exact c⟩
    refine hA.go s1 s9 f1 f20 hy (fun _ => by omega) (Or.inr ⟨o, Or.inl ⟨?_, ?_, rfl⟩⟩) <;> omega
  · exact hA.go s1 s9 f1 f20 hy (fun k => by
      have v1 := yT9_v (a := a) (b := b) (u := u - f.toNat)
      have b1 := hB (u - f.toNat) (by omega)
      omega) (Or.inl ⟨o, rfl⟩)
theorem y9_yes {N : Nat} {va vb : Int32} {U : Int} (hU : (u : Int) = U) (hQ : yQ9 P q n) (hK : plK P T (yT9 a b) N) (hB : yB9 a b u) (hN : u = N + 1) (hn : (u : Int) ≤ n) (h4 : u ≤ 400) (hA : plA P T (yT9 a b) u s f (yT9 a b u)) (s1 : 1 ≤ s) (s9 : s ≤ 9) (f1 : 1 ≤ f) (f20 : f ≤ 20) (hT : tm.toInt = T s) (ht : 0 ≤ tm.toInt ∧ tm.toInt ≤ 3456) (hy : y = f + 1) (hg : yGo q a b tm U s f (a u).toInt (b u).toInt) (hva : va = tm + a (U - f).toNat) (hvb : vb = 1 + b (U - f).toNat) (ha : a' = upd a u va) (hb : b' = upd b u vb) : plK P T (yT9 a' b') N ∧ yB9 a' b' u ∧ plA P T (yT9 a' b') u s y (yT9 a' b' u) := by
  subst hU
  obtain ⟨g1, g2, g3, g4⟩ := hg
  have l := (hQ s f s1 s9 f1 f20).mp g2
  have ix : ((u : Int) - f).toNat = u - f.toNat := by omega
  rw [ix] at g3 g4 hva hvb
  have v1 := yT9_v (a := a) (b := b) (u := u - f.toNat)
  have v2 := yT9_v (a := a) (b := b) (u := u)
  have b1 := hB (u - f.toNat) (by omega)
  have b2 := hB u (Nat.le_refl _)
  have sm := y9_sum (v := tm) (tm := tm) hB (show u - f.toNat ≤ u by omega) h4 ht g3
  rw [sm.1, sm.2] at g4
  have ea : (a' u).toInt = tm.toInt + (a (u - f.toNat)).toInt := by rw [ha, show upd a u va u = va from if_pos rfl, hva]; exact sm.1
  have eb : (b' u).toInt = 1 + (b (u - f.toNat)).toInt := by rw [hb, show upd b u vb u = vb from if_pos rfl, hvb]; exact sm.2
  have lo : ∀ k : Nat, k ≠ u → yT9 a' b' k = yT9 a b k := fun k hk => by rw [ha, hb]; exact yT9_up hk
  have v3 := yT9_v (a := a') (b := b') (u := u)
  refine ⟨hK.cg (fun k hk => (lo k (by omega)).symm), fun k hk => ?_, ?_⟩
  · by_cases e : k = u
    · subst e
      omega
    · rw [ha, hb, show upd a u va k = a k from if_neg e, show upd b u vb k = b k from if_neg e]
      exact hB k hk
  · have A2 : plA P T (yT9 a b) u s y (yT9 a' b' u) := hA.go s1 s9 f1 f20 hy (fun _ => by omega) (Or.inr ⟨⟨g1, l.2, by omega⟩, Or.inr ⟨by omega, by omega⟩⟩)
    exact A2.eq (fun k hk => (lo k (by omega)).symm)
theorem y9_0 (ha : a 0 = 0) (hb : b 0 = 0) : plK P T (yT9 a b) 0 ∧ yB9 a b 0 := by
  have e1 : (a 0).toInt = 0 := by rw [ha]; rfl
  have e2 : (b 0).toInt = 0 := by rw [hb]; rfl
  have v := yT9_v (a := a) (b := b) (u := 0)
  refine ⟨⟨by omega, fun k h1 h2 => by omega⟩, fun k hk => ?_⟩
  obtain rfl : k = 0 := by omega
  exact Or.inr (by omega)
/-- the row of what is quiet grows -/
theorem yQ_1 {q' : Nat → Int32} {v : Int32} (h1 : ∀ s' f' : Int, 1 ≤ s' → s' < s → 1 ≤ f' → f' ≤ 20 → ((q (21 * s' + f').toNat).toInt ≠ 0 ↔ (f' ≤ n ∧ P s' f'))) (h2 : ∀ f' : Int, 1 ≤ f' → f' < f → ((q (21 * s + f').toNat).toInt ≠ 0 ↔ (f' ≤ n ∧ P s f'))) (hv : v.toInt ≠ 0 ↔ (f ≤ n ∧ P s f)) (s1 : 1 ≤ s) (f1 : 1 ≤ f) (f20 : f ≤ 20) (hq : q' = upd q (21 * s + f).toNat v) (hy : y = f + 1) : (∀ s' f' : Int, 1 ≤ s' → s' < s → 1 ≤ f' → f' ≤ 20 → ((q' (21 * s' + f').toNat).toInt ≠ 0 ↔ (f' ≤ n ∧ P s' f'))) ∧ ∀ f' : Int, 1 ≤ f' → f' < y → ((q' (21 * s + f').toNat).toInt ≠ 0 ↔ (f' ≤ n ∧ P s f')) := by
  have o : ∀ k : Nat, k ≠ (21 * s + f).toNat → q' k = q k := fun k hk => by
    rw [hq]
    exact if_neg hk
  refine ⟨fun s' f' a1 a2 a3 a4 => ?_, fun f' a1 a2 => ?_⟩
  · rw [o _ (by omega)]
    exact h1 s' f' a1 a2 a3 a4
  · by_cases e : f' = f
    · rw [e, hq, show upd q (21 * s + f).toNat v (21 * s + f).toNat = v from if_pos rfl]
      exact hv
    · rw [o _ (by omega)]
      exact h2 f' a1 (by omega)
end YP
