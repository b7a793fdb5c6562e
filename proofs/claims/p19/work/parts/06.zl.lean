/-! the time of a pass by speed and sway alone, the best speed -/
def tmA (Q : gS) (sp : Int) : Nat → Int
  | 0 => 0
  | n + 1 => tmA Q sp n + (sp + (Q 2 ((n : Int) % (Q 0 11).toInt).toNat).toInt)
def tmN (Q : gS) : Int := (Q 0 0).toInt * (Q 0 9).toInt
def tmT (Q : gS) (sp : Int) : Int := tmA Q sp (tmN Q).toNat
theorem tmA_sp {Q : gS} {sp : Int} : ∀ n : Nat, tmA Q sp n = (n : Int) * sp + tmA Q 0 n
  | 0 => by
    show (0 : Int) = ((0 : Nat) : Int) * sp + 0
    rw [show ((0 : Nat) : Int) = 0 from rfl, Int.zero_mul]
    omega
  | n + 1 => by
    have h := tmA_sp (Q := Q) (sp := sp) n
    show tmA Q sp n + (sp + _) = _ + (tmA Q 0 n + (0 + _))
    rw [h, show (((n + 1 : Nat)) : Int) = (n : Int) + 1 by omega, Int.add_mul, Int.one_mul]
    omega
theorem md_nx {i m r : Int} (hm : 1 ≤ m) (h0 : 0 ≤ i) (hr : r = i % m) : (if r + 1 < m then r + 1 else 0) = (i + 1) % m := by
  have h1 := Int.emod_nonneg i (show m ≠ 0 by omega)
  have h2 := Int.emod_lt_of_pos i (show 0 < m by omega)
  have h3 := Int.emod_add_mul_ediv i m
  by_cases c : r + 1 < m
  · rw [if_pos c, show i + 1 = (r + 1) + m * (i / m) by omega, Int.add_mul_emod_self_left, Int.emod_eq_of_lt (by omega) c]
  · have h4 : i + 1 = m * (i / m + 1) := by
      rw [Int.mul_add, Int.mul_one]
      omega
    rw [if_neg c, h4, Int.mul_emod_right]
/-- the sums keep their bounds -/
theorem tmA_b {Q : gS} {sp : Int} (h0 : 1 ≤ sp) (h9 : sp ≤ 9) (m0 : 1 ≤ (Q 0 11).toInt) (hb : ∀ q : Nat, (q : Int) < (Q 0 11).toInt → 0 ≤ (Q 2 q).toInt ∧ (Q 2 q).toInt ≤ 9) : ∀ n : Nat, (n : Int) ≤ tmA Q sp n ∧ tmA Q sp n ≤ 18 * (n : Int)
  | 0 => by
    show ((0 : Nat) : Int) ≤ 0 ∧ (0 : Int) ≤ _
    omega
  | n + 1 => by
    obtain ⟨i1, i2⟩ := tmA_b h0 h9 m0 hb n
    have h1 := Int.emod_nonneg (n : Int) (show (Q 0 11).toInt ≠ 0 by omega)
    have h2 := Int.emod_lt_of_pos (n : Int) (show 0 < (Q 0 11).toInt by omega)
    have h3 := hb ((n : Int) % (Q 0 11).toInt).toNat (by omega)
    show _ ≤ tmA Q sp n + (sp + _) ∧ tmA Q sp n + (sp + _) ≤ _
    omega
theorem tmN_b {Q : gS} (h0 : 4 ≤ (Q 0 0).toInt) (h1 : (Q 0 0).toInt ≤ 16) (h2 : 1 ≤ (Q 0 9).toInt) (h3 : (Q 0 9).toInt ≤ 12) : 1 ≤ tmN Q ∧ tmN Q ≤ 192 := by
  unfold tmN
  have a : (Q 0 0).toInt * (Q 0 9).toInt ≤ 16 * 12 := Int.mul_le_mul h1 h3 (by omega) (by omega)
  have b : (1 : Int) * 1 ≤ (Q 0 0).toInt * (Q 0 9).toInt := Int.mul_le_mul (by omega) h2 (by omega) (by omega)
  omega
theorem tmT_b {Q : gS} {sp : Int} (h0 : 1 ≤ sp) (h9 : sp ≤ 9) (m0 : 1 ≤ (Q 0 11).toInt) (hb : ∀ q : Nat, (q : Int) < (Q 0 11).toInt → 0 ≤ (Q 2 q).toInt ∧ (Q 2 q).toInt ≤ 9) (h4 : 4 ≤ (Q 0 0).toInt) (h1 : (Q 0 0).toInt ≤ 16) (h2 : 1 ≤ (Q 0 9).toInt) (h3 : (Q 0 9).toInt ≤ 12) : 1 ≤ tmT Q sp ∧ tmT Q sp ≤ 3456 := by
  have a := tmN_b h4 h1 h2 h3
  have b := tmA_b h0 h9 m0 hb (tmN Q).toNat
  unfold tmT
  omega
/-- one sway more -/
theorem tmSw_1 {Q : gS} {a b s i m r : Int} {n : Nat} (hb : a = b + tmA Q 0 n) (hn : (n : Int) = i) (hm : (Q 0 11).toInt = m) (hr : r = i % m) (hs : s = (Q 2 r.toNat).toInt) {a' : Int} (ha : a' = a + s) {n' : Nat} (hn' : n' = n + 1) : a' = b + tmA Q 0 n' := by
  rw [hn']
  show a' = b + (tmA Q 0 n + (0 + (Q 2 ((n : Int) % (Q 0 11).toInt).toNat).toInt))
  rw [hm, hn, ← hr, ← hs]
  omega
/-- a deepest feed above 0 is there, and what a floor leaves of it -/
theorem dpR.ex {P : Int → Prop} : ∃ r : Int, dpR P 0 r := by
  have go : ∀ n : Nat, n ≤ 20 → (∀ f : Int, (n : Int) < f → f ≤ 20 → ¬ P f) → ∃ r : Int, dpR P 0 r := by
    intro n
    induction n with
    | zero => exact fun _ h => ⟨-1, Or.inl ⟨rfl, fun f a _ c => h f a c⟩⟩
    | succ n ih =>
      intro hn h
      by_cases c : P ((n + 1 : Nat) : Int)
      · exact ⟨((n + 1 : Nat) : Int), Or.inr ⟨by omega, by omega, by omega, c, h⟩⟩
      · refine ih (by omega) (fun f a b d => ?_)
        by_cases e : f = ((n + 1 : Nat) : Int)
        · exact c (e ▸ d)
        · exact h f (by omega) b d
  exact go 20 (by decide) (fun f a b => by omega)
theorem dpR.fl {P : Int → Prop} {fl r r0 : Int} (h0 : dpR P 0 r0) (h : dpR P fl r) (hf : 0 ≤ fl) : (r = r0 ∧ fl < r0) ∨ (r = -1 ∧ r0 ≤ fl) := by
  rcases h0 with ⟨a1, a2⟩ | ⟨a1, a2, a3, a4, a5⟩ <;> rcases h with ⟨b1, b2⟩ | ⟨b1, b2, b3, b4, b5⟩
  · exact Or.inr ⟨b1, by omega⟩
  · exact absurd b4 (a2 r (by omega) b2 b3)
  · by_cases c : r0 ≤ fl
    · exact Or.inr ⟨b1, c⟩
    · exact absurd a4 (b2 r0 (by omega) a2 a3)
  · rcases (show r < r0 ∨ r = r0 ∨ r0 < r by omega) with c | c | c
    · exact absurd a4 (b5 r0 c a3)
    · exact Or.inl ⟨c, by omega⟩
    · exact absurd b4 (a5 r c b3)
theorem dpR.rng {P : Int → Prop} {fl r : Int} (h : dpR P fl r) : r = -1 ∨ (1 ≤ r ∧ r ≤ 20 ∧ fl < r) := by
  rcases h with ⟨b1, b2⟩ | ⟨b1, b2, b3, b4, b5⟩
  · exact Or.inl b1
  · exact Or.inr ⟨b2, b3, b1⟩
def bsP (Q : gS) (C : Nat → List Int) (h : Nat → Int32) (w : Int32) (a0 : Int) (sp f : Int) : Prop := pvAr Q a0 sp f ∧ pvA Q C h w a0 (Int32.ofInt sp) (Int32.ofInt f) (Q 0 9)
/-- the best of the first n speeds, and its deepest feed -/
def bsR (P : Int → Int → Prop) (T : Int → Int) : Nat → Int → Int → Prop
  | 0, b, d => b = -1 ∧ d = 0
  | n + 1, b, d => ∃ b0 d0 r : Int, bsR P T n b0 d0 ∧ dpR (P ((n : Int) + 1)) 0 r ∧ (((r = -1 ∨ (b0 ≠ -1 ∧ r * T b0 ≤ d0 * T ((n : Int) + 1))) ∧ b = b0 ∧ d = d0) ∨ (¬ (r = -1 ∨ (b0 ≠ -1 ∧ r * T b0 ≤ d0 * T ((n : Int) + 1))) ∧ b = (n : Int) + 1 ∧ d = r))
theorem bsR.uniq {P : Int → Int → Prop} {T : Int → Int} : ∀ {n : Nat} {b d b' d' : Int}, bsR P T n b d → bsR P T n b' d' → b = b' ∧ d = d'
  | 0, b, d, b', d', h, g => ⟨h.1.trans g.1.symm, h.2.trans g.2.symm⟩
  | n + 1, b, d, b', d', h, g => by
    obtain ⟨b0, d0, r, h1, h2, h3⟩ := h
    obtain ⟨b1, d1, r1, g1, g2, g3⟩ := g
    obtain ⟨e1, e2⟩ := bsR.uniq h1 g1
    have e3 := dpR.uniq h2 g2
    subst e1 e2 e3
    rcases h3 with ⟨x1, x2, x3⟩ | ⟨x1, x2, x3⟩ <;> rcases g3 with ⟨y1, y2, y3⟩ | ⟨y1, y2, y3⟩
    · exact ⟨by omega, by omega⟩
    · exact absurd x1 y1
    · exact absurd y1 x1
    · exact ⟨by omega, by omega⟩
theorem bsR.to {P P' : Int → Int → Prop} {T : Int → Int} (e : ∀ s f : Int, P s f ↔ P' s f) {n : Nat} {b d : Int} (h : bsR P T n b d) : bsR P' T n b d := by
  have e2 : P = P' := funext fun x => funext fun y => propext (e x y)
  rw [← e2]
  exact h
theorem bsR.rng {P : Int → Int → Prop} {T : Int → Int} : ∀ {n : Nat} {b d : Int}, bsR P T n b d → (b = -1 ∧ d = 0) ∨ (1 ≤ b ∧ b ≤ (n : Int) ∧ 1 ≤ d ∧ d ≤ 20)
  | 0, b, d, h => Or.inl h
  | n + 1, b, d, h => by
    obtain ⟨b0, d0, r, h1, h2, h3⟩ := h
    have i := bsR.rng h1
    have j := h2.rng
    rcases h3 with ⟨x1, x2, x3⟩ | ⟨x1, x2, x3⟩
    · omega
    · have k : r ≠ -1 := fun z => x1 (Or.inl z)
      omega
/-- one speed more, as the reference goes -/
theorem bsR.goy {P : Int → Int → Prop} {T : Int → Int} {n : Nat} {b d r b' d' s : Int} (hB : bsR P T n b d) (hs : s = (n : Int) + 1) (h : dpR (P s) 0 r) (h' : ((r = -1 ∨ (b ≠ -1 ∧ r * T b ≤ d * T s)) ∧ b' = b ∧ d' = d) ∨ (r ≠ -1 ∧ (b = -1 ∨ d * T s < r * T b) ∧ b' = s ∧ d' = r)) : bsR P T (n + 1) b' d' := by
  subst hs
  refine ⟨b, d, r, hB, h, ?_⟩
  rcases h' with h | ⟨h1, h2, h3, h4⟩
  · exact Or.inl h
  · refine Or.inr ⟨?_, h3, h4⟩
    rintro (a | ⟨a1, a2⟩)
    · exact h1 a
    · rcases h2 with c | c
      · exact a1 c
      · omega
/-- one speed more, as the class goes: by a floor -/
theorem bsR.gox {P : Int → Int → Prop} {T : Int → Int} {n : Nat} {b d bt t fl r b' d' bt' s : Int} (hB : bsR P T n b d) (hb : (b = -1 ∧ d = 0 ∧ bt = 1) ∨ (b ≠ -1 ∧ bt = T b)) (hp : 1 ≤ bt) (ht : t = T s) (hs : s = (n : Int) + 1) (h0 : 0 ≤ t) (hf : fl = d * t / bt) (h : dpR (P s) fl r) (h' : (r = -1 ∧ b' = b ∧ d' = d ∧ bt' = bt) ∨ (r ≠ -1 ∧ b' = s ∧ d' = r ∧ bt' = t)) : bsR P T (n + 1) b' d' ∧ ((b' = -1 ∧ d' = 0 ∧ bt' = 1) ∨ (b' ≠ -1 ∧ bt' = T b')) := by
  obtain ⟨r0, q⟩ := dpR.ex (P := P s)
  have rg := hB.rng
  have dt0 : 0 ≤ d * t := Int.mul_nonneg (by omega) h0
  have fl0 : 0 ≤ fl := by rw [hf]; exact Int.ediv_nonneg dt0 (by omega)
  rcases q.fl h fl0 with ⟨e1, e2⟩ | ⟨e1, e2⟩
  · have k := q.rng
    rcases h' with ⟨a1, a2, a3, a4⟩ | ⟨a1, a2, a3, a4⟩
    · omega
    · refine ⟨bsR.goy hB hs q (Or.inr ⟨by omega, ?_, a2, by omega⟩), Or.inr ⟨by omega, by rw [a4, a2]; exact ht⟩⟩
      rcases hb with ⟨c1, c2, c3⟩ | ⟨c1, c2⟩
      · exact Or.inl c1
      · refine Or.inr ?_
        rw [hf] at e2
        have z := (Int.ediv_lt_iff_lt_mul (show 0 < bt by omega)).mp e2
        rw [← c2, ← ht]
        exact z
  · rcases h' with ⟨a1, a2, a3, a4⟩ | ⟨a1, a2, a3, a4⟩
    · refine ⟨bsR.goy hB hs q (Or.inl ⟨?_, a2, a3⟩), by rw [a2, a3, a4]; exact hb⟩
      by_cases c : r0 = -1
      · exact Or.inl c
      · refine Or.inr ?_
        have k := q.rng
        rcases hb with ⟨c1, c2, c3⟩ | ⟨c1, c2⟩
        · rw [c2, Int.zero_mul, Int.zero_ediv] at hf
          omega
        · refine ⟨c1, ?_⟩
          rw [hf] at e2
          have z := (Int.le_ediv_iff_mul_le (show 0 < bt by omega)).mp e2
          rw [← c2, ← ht]
          exact z
    · omega
theorem bsP_eq {Q : gS} {C : Nat → List Int} {h g : Nat → Int32} {w : Int32} {r sp f : Int} (e : ∀ q : Nat, q < 96 → h q = g q) (h0 : 0 ≤ r) (h1 : r ≤ 5) (hn : (Q 0 1).toInt ≤ 6) (hs : (Q 0 0).toInt ≤ 16) : bsP Q C h w r sp f ↔ bsP Q C g w r sp f := by
  unfold bsP
  rw [pvA_eq e h0 h1 hn hs]
theorem tmSw_n {x y p : Int32} {s : Int} (e : p.toInt = s) (h0 : 4 ≤ x.toInt) (h1 : x.toInt ≤ 16) (h2 : 1 ≤ y.toInt) (h3 : y.toInt ≤ 12) (h4 : 1 ≤ s) (h5 : s ≤ 9) : (x * y).toInt = x.toInt * y.toInt ∧ 4 ≤ (x * y).toInt ∧ (x * y).toInt ≤ 192 ∧ (x * y * p).toInt = (x * y).toInt * s ∧ 1 ≤ (x * y * p).toInt ∧ (x * y * p).toInt ≤ 1728 := by
  have a : x.toInt * y.toInt ≤ 16 * 12 := Int.mul_le_mul h1 h3 (by omega) (by omega)
  have b : (4 : Int) * 1 ≤ x.toInt * y.toInt := Int.mul_le_mul h0 h2 (by omega) (by omega)
  have c : (x * y).toInt = x.toInt * y.toInt := ti_mul rfl rfl (by omega) (by omega)
  have a2 : (x * y).toInt * s ≤ 192 * 9 := Int.mul_le_mul (by omega) h5 (by omega) (by omega)
  have b2 : (4 : Int) * 1 ≤ (x * y).toInt * s := Int.mul_le_mul (by omega) h4 (by omega) (by omega)
  have d : (x * y * p).toInt = (x * y).toInt * s := ti_mul rfl e (by omega) (by omega)
  exact ⟨c, by omega, by omega, d, by omega, by omega⟩
