/-! tokens of the tape: bytes b, n of them -/
abbrev tBl (c : Int) : Prop := c = 32 ∨ c = 10
abbrev tLe (c : Int) : Prop := 97 ≤ c ∧ c ≤ 122
abbrev tDi (c : Int) : Prop := 48 ≤ c ∧ c ≤ 57
abbrev tSg (c : Int) : Prop := c = 59 ∨ c = 40 ∨ c = 41 ∨ c = 43 ∨ c = 45 ∨ c = 42 ∨ c = 47 ∨ c = 37
/-- bytes of a kind from p on, up to q -/
def tPre (P : Int → Prop) (b : Nat → Int32) (n p q : Int) : Prop := p ≤ q ∧ ∀ i : Int, p ≤ i → i < q → i < n ∧ P (yBi b n i)
/-- as many as there are -/
def tRun (P : Int → Prop) (b : Nat → Int32) (n p q : Int) : Prop := tPre P b n p q ∧ ¬ (q < n ∧ P (yBi b n q))
theorem tPre.rf {P : Int → Prop} {b : Nat → Int32} {n p : Int} : tPre P b n p p := ⟨Int.le_refl _, fun i h1 h2 => by omega⟩
theorem tPre.step {P : Int → Prop} {b : Nat → Int32} {n p q r : Int} (h : tPre P b n p q) (h1 : q < n) (h2 : P (yBi b n q)) (hr : r = q + 1) : tPre P b n p r := by
  subst hr
  refine ⟨by have := h.1; omega, fun i a1 a2 => ?_⟩
  by_cases e : i = q
  · subst e; exact ⟨h1, h2⟩
  · exact h.2 i a1 (by omega)
theorem tRun.uniq {P : Int → Prop} {b : Nat → Int32} {n p q r : Int} (h : tRun P b n p q) (g : tRun P b n p r) : q = r := by
  rcases Int.lt_trichotomy q r with h1 | h1 | h1
  · exact absurd (g.1.2 q h.1.1 h1) h.2
  · exact h1
  · exact absurd (h.1.2 r g.1.1 h1) g.2
/-- what digits tell -/
def tVal (b : Nat → Int32) (n p : Int) : Nat → Int
  | 0 => 0
  | m + 1 => 10 * tVal b n p m + yBi b n (p + m) - 48
theorem tVal_le {b : Nat → Int32} {n p : Int} {q : Int} (h : tPre tDi b n p q) : ∀ {m : Nat}, (m : Int) ≤ q - p → 0 ≤ tVal b n p m ∧ tVal b n p m ≤ 10 ^ m - 1
  | 0, _ => ⟨Int.le_refl _, by show (0 : Int) ≤ 10 ^ 0 - 1; decide⟩
  | m + 1, hm => by
    have ih := tVal_le h (m := m) (by omega)
    have hd := (h.2 (p + m) (by omega) (by omega)).2
    have e : (10 : Int) ^ (m + 1) = 10 ^ m * 10 := Int.pow_succ ..
    show 0 ≤ 10 * tVal b n p m + yBi b n (p + m) - 48 ∧ 10 * tVal b n p m + yBi b n (p + m) - 48 ≤ 10 ^ (m + 1) - 1
    rw [e]
    omega
/-- the token at hand, looked for from p on: its kind k, its place pl, its value v (of numbers and signs), what is behind it q -/
def tTok (b : Nat → Int32) (n p k pl v q : Int) : Prop :=
  tRun tBl b n p pl ∧
  ((n ≤ pl ∧ k = 0 ∧ q = pl) ∨
   (pl < n ∧ tLe (yBi b n pl) ∧ tRun tLe b n pl q ∧ ((q - pl ≤ 8 ∧ k = 1) ∨ (8 < q - pl ∧ k = 4))) ∨
   (pl < n ∧ tDi (yBi b n pl) ∧ tRun tDi b n pl q ∧ ((q - pl ≤ 4 ∧ k = 2 ∧ v = tVal b n pl (q - pl).toNat) ∨ (4 < q - pl ∧ k = 4))) ∨
   (pl < n ∧ ¬ tLe (yBi b n pl) ∧ ¬ tDi (yBi b n pl) ∧ q = pl + 1 ∧ ((tSg (yBi b n pl) ∧ k = 3 ∧ v = yBi b n pl) ∨ (¬ tSg (yBi b n pl) ∧ k = 4))))
theorem tTok.uniq {b : Nat → Int32} {n p k pl v q k' pl' v' q' : Int} (h : tTok b n p k pl v q) (g : tTok b n p k' pl' v' q') : k = k' ∧ pl = pl' ∧ q = q' ∧ (k = 2 ∨ k = 3 → v = v') := by
  obtain ⟨h0, h1⟩ := h
  obtain ⟨g0, g1⟩ := g
  have e := h0.uniq g0
  subst e
  rcases h1 with ⟨a1, a2, a3⟩ | ⟨a1, a2, a3, a4⟩ | ⟨a1, a2, a3, a4⟩ | ⟨a1, a2, a3, a4, a5⟩ <;> rcases g1 with ⟨b1, b2, b3⟩ | ⟨b1, b2, b3, b4⟩ | ⟨b1, b2, b3, b4⟩ | ⟨b1, b2, b3, b4, b5⟩
  · exact ⟨by omega, rfl, by omega, fun h => by omega⟩
  · omega
  · omega
  · omega
  · omega
  · have e2 := a3.uniq b3
    subst e2
    exact ⟨by omega, rfl, rfl, fun h => by omega⟩
  · omega
  · exact absurd a2 b2
  · omega
  · omega
  · have e2 := a3.uniq b3
    subst e2
    rcases a4 with ⟨c1, c2, c3⟩ | ⟨c1, c2⟩ <;> rcases b4 with ⟨d1, d2, d3⟩ | ⟨d1, d2⟩
    · exact ⟨by omega, rfl, rfl, fun _ => by rw [c3, d3]⟩
    · omega
    · omega
    · exact ⟨by omega, rfl, rfl, fun h => by omega⟩
  · exact absurd a2 b3
  · omega
  · exact absurd b2 a2
  · exact absurd b2 a3
  · rcases a5 with ⟨c1, c2, c3⟩ | ⟨c1, c2⟩ <;> rcases b5 with ⟨d1, d2, d3⟩ | ⟨d1, d2⟩
    · exact ⟨by omega, rfl, by omega, fun _ => by rw [c3, d3]⟩
    · exact absurd c1 d1
    · exact absurd d1 c1
    · exact ⟨by omega, rfl, by omega, fun h => by omega⟩
theorem yBi_eq {b b' : Nat → Int32} {n : Int} (h : ∀ i : Nat, (i : Int) < n → b' i = b i) {k : Int} (hk : 0 ≤ k) : yBi b' n k = yBi b n k := by
  unfold yBi
  by_cases e : k < n
  · rw [if_pos e, if_pos e, h k.toNat (by omega)]
  · rw [if_neg e, if_neg e]
theorem tPre.eq {P : Int → Prop} {b b' : Nat → Int32} {n p q : Int} (he : ∀ i : Nat, (i : Int) < n → b' i = b i) (hp : 0 ≤ p) (h : tPre P b n p q) : tPre P b' n p q := ⟨h.1, fun i a1 a2 => by rw [yBi_eq he (by omega)]; exact h.2 i a1 a2⟩
theorem tRun.eq {P : Int → Prop} {b b' : Nat → Int32} {n p q : Int} (he : ∀ i : Nat, (i : Int) < n → b' i = b i) (hp : 0 ≤ p) (h : tRun P b n p q) : tRun P b' n p q := ⟨h.1.eq he hp, by rw [yBi_eq he (by have := h.1.1; omega)]; exact h.2⟩
theorem tVal_eq {b b' : Nat → Int32} {n p : Int} (he : ∀ i : Nat, (i : Int) < n → b' i = b i) (hp : 0 ≤ p) : ∀ m : Nat, tVal b' n p m = tVal b n p m
  | 0 => rfl
  | m + 1 => by
    show 10 * tVal b' n p m + yBi b' n (p + m) - 48 = 10 * tVal b n p m + yBi b n (p + m) - 48
    rw [tVal_eq he hp m, yBi_eq he (by omega)]
theorem tTok.eq {b b' : Nat → Int32} {n p k pl v q : Int} (he : ∀ i : Nat, (i : Int) < n → b' i = b i) (hp : 0 ≤ p) (h : tTok b n p k pl v q) : tTok b' n p k pl v q := by
  obtain ⟨h0, h1⟩ := h
  have hl : 0 ≤ pl := by have := h0.1.1; omega
  refine ⟨h0.eq he hp, ?_⟩
  rw [yBi_eq he hl, tVal_eq he hl]
  rcases h1 with h1 | ⟨a1, a2, a3, a4⟩ | ⟨a1, a2, a3, a4⟩ | h1
  · exact Or.inl h1
  · exact Or.inr (Or.inl ⟨a1, a2, a3.eq he hl, a4⟩)
  · exact Or.inr (Or.inr (Or.inl ⟨a1, a2, a3.eq he hl, a4⟩))
  · exact Or.inr (Or.inr (Or.inr h1))
theorem tVal_i32 {b : Nat → Int32} {n p q : Int} {v r : Int32} (hv : v = Int32.ofInt (tVal b n p (q - p).toNat)) (hr : r.toInt = yBi b n q) (hq : p ≤ q) {y : Int} (hy : y = q + 1) : v * 10 + r - 48 = Int32.ofInt (tVal b n p (y - p).toNat) := by
  subst hy
  have e1 : (q + 1 - p).toNat = (q - p).toNat + 1 := by omega
  have e2 : tVal b n p ((q - p).toNat + 1) = 10 * tVal b n p (q - p).toNat + yBi b n (p + ((q - p).toNat : Nat)) - 48 := rfl
  have e3 : p + ((q - p).toNat : Int) = q := by omega
  rw [e1, e2, e3, ← hr, hv, Int32.ofInt_sub, Int32.ofInt_add, Int32.ofInt_mul, Int32.ofInt_toInt, Int32.mul_comm]
  rfl
theorem tVal_small {b : Nat → Int32} {n p q : Int} (h : tPre tDi b n p q) (h4 : q - p ≤ 4) : (Int32.ofInt (tVal b n p (q - p).toNat)).toInt = tVal b n p (q - p).toNat := by
  have h1 := tVal_le h (m := (q - p).toNat) (by have := h.1; omega)
  have h2 : (10 : Int) ^ (q - p).toNat ≤ 10 ^ 4 := by
    have h9 := h.1
    rcases (show (q - p).toNat = 0 ∨ (q - p).toNat = 1 ∨ (q - p).toNat = 2 ∨ (q - p).toNat = 3 ∨ (q - p).toNat = 4 by omega) with e | e | e | e | e <;> rw [e] <;> decide
  have h3 : (10 : Int) ^ 4 = 10000 := by decide
  rw [h3] at h2
  exact Int32.toInt_ofInt_of_le (by omega) (by omega)
theorem tVal_bd {b : Nat → Int32} {n p q : Int} (h : tPre tDi b n p q) (h4 : q - p ≤ 4) {x : Int32} (hx : x = Int32.ofInt (tVal b n p (q - p).toNat)) : 0 ≤ x.toInt ∧ x.toInt ≤ 9999 := by
  have h1 := tVal_le h (m := (q - p).toNat) (by have := h.1; omega)
  have h3 := tVal_small h h4
  have h2 : (10 : Int) ^ (q - p).toNat ≤ 10 ^ 4 := by
    have h9 := h.1
    rcases (show (q - p).toNat = 0 ∨ (q - p).toNat = 1 ∨ (q - p).toNat = 2 ∨ (q - p).toNat = 3 ∨ (q - p).toNat = 4 by omega) with e | e | e | e | e <;> rw [e] <;> decide
  have e : (10 : Int) ^ 4 = 10000 := by decide
  rw [e] at h2
  rw [hx, h3]
  omega
theorem i8_toInt (x : Int32) (h0 : 0 ≤ x.toInt) (h1 : x.toInt ≤ 255) : (Int32.toInt8 x).toInt32.toInt = if x.toInt ≤ 127 then x.toInt else x.toInt - 256 := by
  rw [Int8.toInt_toInt32, Int32.toInt_toInt8]
  have e : (x.toInt).bmod (2 ^ 8) = if x.toInt % 256 < 128 then x.toInt % 256 else x.toInt % 256 - 256 := by
    unfold Int.bmod
    rfl
  rw [e]
  split <;> split <;> omega
theorem byte_255 {x : Int32} (h0 : -128 ≤ x.toInt) (h1 : x.toInt ≤ 127) : (x &&& 255).toInt = if 0 ≤ x.toInt then x.toInt else x.toInt + 256 := by
  have e : (x &&& 255).toInt = x.toInt % 256 := by
    have a1 : (x &&& 255).toBitVec = x.toBitVec &&& 255#32 := rfl
    have a2 : (x &&& 255).toInt = ((x.toBitVec &&& 255#32).toNat : Int) := by
      show (x &&& 255).toBitVec.toInt = _
      rw [a1, BitVec.toInt_eq_toNat_cond]
      have : (x.toBitVec &&& 255#32).toNat ≤ 255 := by rw [BitVec.toNat_and]; exact Nat.and_le_right
      rw [if_pos (by omega)]
    have a3 : (x.toBitVec &&& 255#32).toNat = x.toBitVec.toNat % 256 := by
      rw [BitVec.toNat_and]
      exact Nat.and_two_pow_sub_one_eq_mod x.toBitVec.toNat 8
    have a4 : x.toInt = if 2 * x.toBitVec.toNat < 2 ^ 32 then (x.toBitVec.toNat : Int) else (x.toBitVec.toNat : Int) - ((2 ^ 32 : Nat) : Int) := BitVec.toInt_eq_toNat_cond _
    rw [a2, a3]
    split at a4 <;> omega
  rw [e]
  split <;> omega
theorem tVal_i32c {b : Nat → Int32} {n p q : Int} {v r : Int32} (hv : v = Int32.ofInt (tVal b n p (q - p).toNat)) (hr : r.toInt = yBi b n q) (hq : p ≤ q) {y : Int} (hy : y = q + 1) : 10 * v + r - 48 = Int32.ofInt (tVal b n p (y - p).toNat) := by
  rw [Int32.mul_comm]; exact tVal_i32 hv hr hq hy
theorem yBi_raw {b : Nat → Int32} {n k : Int} (hk : k < n) (h0 : -128 ≤ (b k.toNat).toInt) (h1 : (b k.toNat).toInt ≤ 127) : yBi b n k = if 0 ≤ (b k.toNat).toInt then (b k.toNat).toInt else (b k.toNat).toInt + 256 := by
  unfold yBi
  rw [if_pos hk, byte_255 h0 h1]
/-- the bytes of an int, the highest first -/
def tBy (v : Int32) (j : Int) : Int32 := vp_nar .byte (Int32.toInt8 (v >>> (Int32.ofInt (24 - 8 * j) &&& 31))).toInt32
def tLay (b b' : Nat → Int32) (L : Int) (v : Int32) (m : Int) : Prop := (∀ i : Nat, (i : Int) < L → b' i = b i) ∧ (∀ j : Int, 0 ≤ j → j < m → b' (L + j).toNat = tBy v j)
theorem tLay.at0 {b : Nat → Int32} {L : Int} {v : Int32} {m : Int} (h : m = 0) : tLay b b L v m := ⟨fun _ _ => rfl, fun j h1 h2 => by omega⟩
theorem tLay.step {b b' : Nat → Int32} {L m k y : Int} {v s : Int32} (h : tLay b b' L v m) (h0 : 0 ≤ L) (hm : 0 ≤ m) (hk : k = L + m) (hs : s.toInt = 24 - 8 * m) (hy : y = m + 1) : tLay b (upd b' k.toNat (vp_nar .byte (Int32.toInt8 (v >>> (s &&& 31))).toInt32)) L v y := by
  subst hy
  subst hk
  refine ⟨fun i hi => ?_, fun j h1 h2 => ?_⟩
  · rw [show upd b' (L + m).toNat _ i = b' i from if_neg (by omega)]
    exact h.1 i hi
  · by_cases e : j = m
    · subst e
      rw [show upd b' (L + j).toNat _ (L + j).toNat = _ from if_pos rfl]
      unfold tBy
      rw [show s = Int32.ofInt (24 - 8 * j) by rw [← hs, Int32.ofInt_toInt]]
    · rw [show upd b' (L + m).toNat _ (L + j).toNat = b' (L + j).toNat from if_neg (by omega)]
      exact h.2 j h1 (by omega)
theorem tLay.cast {b b' : Nat → Int32} {L L' : Int} {v : Int32} {m : Int} (h : tLay b b' L v m) (e : L' = L) : tLay b b' L' v m := by rw [e]; exact h
def tFd (b b' : Nat → Int32) (L : Int) : List Int32 → Prop
  | [] => b' = b
  | v :: vs => ∃ b1 : Nat → Int32, tLay b b1 L v 4 ∧ tFd b1 b' (L + 4) vs
theorem tFd.eq {b' c' : Nat → Int32} : ∀ {vs : List Int32} {b c : Nat → Int32} {L : Int}, tFd b b' L vs → tFd c c' L vs → 0 ≤ L → (∀ i : Nat, (i : Int) < L → c i = b i) → ∀ i : Nat, (i : Int) < L + 4 * vs.length → c' i = b' i
  | [], b, c, L, h, g, h0, he, i, hi => by
    have h1 : b' = b := h
    have g1 : c' = c := g
    rw [h1, g1]
    exact he i (by simpa using hi)
  | v :: vs, b, c, L, h, g, h0, he, i, hi => by
    obtain ⟨b1, h1, h2⟩ := h
    obtain ⟨c1, g1, g2⟩ := g
    refine tFd.eq h2 g2 (by omega) (fun i hi => ?_) i (by simp only [List.length_cons] at hi; omega)
    by_cases e : (i : Int) < L
    · rw [h1.1 i e, g1.1 i e]; exact he i e
    · have e1 := h1.2 (i - L) (by omega) (by omega)
      have e2 := g1.2 (i - L) (by omega) (by omega)
      rw [show (L + ((i : Int) - L)).toNat = i by omega] at e1 e2
      rw [e1, e2]
theorem tTok.lt {b : Nat → Int32} {n p k pl v q : Int} (h : tTok b n p k pl v q) (hp : p ≤ n) : q ≤ n ∧ p ≤ pl ∧ pl ≤ q ∧ (k ≠ 0 → p < q) ∧ 0 ≤ k ∧ k ≤ 4 ∧ (k = 2 → 0 ≤ v ∧ v ≤ 9999) := by
  have h1 := h.1.1.1
  have h2 : pl ≤ n := by
    by_cases e : p = pl
    · omega
    · have := (h.1.1.2 (pl - 1) (by omega) (by omega)).1; omega
  rcases h.2 with ⟨a1, a2, a3⟩ | ⟨a1, a2, a3, a4⟩ | ⟨a1, a2, a3, a4⟩ | ⟨a1, a2, a3, a4, a5⟩
  · omega
  · have b1 := a3.1.1
    have b2 : pl ≠ q := fun e => a3.2 (by rw [← e]; exact ⟨a1, a2⟩)
    have b3 := (a3.1.2 (q - 1) (by omega) (by omega)).1
    omega
  · have b1 := a3.1.1
    have b2 : pl ≠ q := fun e => a3.2 (by rw [← e]; exact ⟨a1, a2⟩)
    have b3 := (a3.1.2 (q - 1) (by omega) (by omega)).1
    have b4 := tVal_le a3.1 (m := (q - pl).toNat) (by omega)
    have b5 : q - pl ≤ 4 → (10 : Int) ^ (q - pl).toNat ≤ 10000 := fun h9 => by
      rcases (show (q - pl).toNat = 0 ∨ (q - pl).toNat = 1 ∨ (q - pl).toNat = 2 ∨ (q - pl).toNat = 3 ∨ (q - pl).toNat = 4 by omega) with e | e | e | e | e <;> rw [e] <;> decide
    omega
  · omega
