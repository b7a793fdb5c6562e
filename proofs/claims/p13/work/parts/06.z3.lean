/-! a sound, token by token: from p on, fnd numbers found so far in the row f, mi: a minus stands ahead -/
def sOut (b : Nat → Int32) (n : Int) : Nat → Int → Int → Int → (Nat → Int32) → Int → Int → Int → (Nat → Int32) → Prop
  | 0, _, _, _, _, _, _, _, _ => False
  | m + 1, p, fnd, mi, f, kd, pc, ct, f' => ∃ k pl v q : Int, tTok b n p k pl v q ∧
      ((k = 2 ∧ fnd < 150 ∧ sOut b n m q (fnd + 1) 0 (upd f fnd.toNat (Int32.ofInt (if mi = 0 then v else -v))) kd pc ct f') ∨
       (k = 2 ∧ 150 ≤ fnd ∧ kd = 4 ∧ pc = pl) ∨
       (k = 3 ∧ v = 45 ∧ mi = 0 ∧ sOut b n m q fnd 1 f kd pc ct f') ∨
       (k = 0 ∧ 0 < fnd ∧ mi = 0 ∧ kd = 0 ∧ ct = fnd ∧ f' = f) ∨
       (¬ k = 2 ∧ ¬ (k = 3 ∧ v = 45 ∧ mi = 0) ∧ ¬ (k = 0 ∧ 0 < fnd ∧ mi = 0) ∧ kd = 1 ∧ pc = pl))
theorem sOut.uniq {b : Nat → Int32} {n : Int} : ∀ {m m2 : Nat} {p fnd mi : Int} {f g f' g' : Nat → Int32} {kd pc ct kd2 pc2 ct2 : Int}, 0 ≤ fnd → sOut b n m p fnd mi f kd pc ct f' → sOut b n m2 p fnd mi g kd2 pc2 ct2 g' → (∀ i : Nat, (i : Int) < fnd → g i = f i) → kd = kd2 ∧ (kd ≠ 0 → pc = pc2) ∧ (kd = 0 → ct = ct2 ∧ ∀ i : Nat, (i : Int) < ct → g' i = f' i)
  | 0, _, _, _, _, _, _, _, _, _, _, _, _, _, _, _, h, _, _ => h.elim
  | _, 0, _, _, _, _, _, _, _, _, _, _, _, _, _, _, _, h, _ => h.elim
  | m + 1, m2 + 1, p, fnd, mi, f, g, f', g', kd, pc, ct, kd2, pc2, ct2, h0, h1, h2, he => by
    obtain ⟨k, pl, v, q, t1, c1⟩ := h1
    obtain ⟨k', pl', v', q', t2, c2⟩ := h2
    obtain ⟨e1, e2, e3, e4⟩ := t1.uniq t2
    subst e1 e2 e3
    rcases c1 with ⟨a1, a2, a3⟩ | ⟨a1, a2, a3, a4⟩ | ⟨a1, a2, a3, a4⟩ | ⟨a1, a2, a3, a4, a5, a6⟩ | ⟨a1, a2, a3, a4, a5⟩
    · have ev := e4 (Or.inl a1)
      subst ev
      rcases c2 with ⟨b1, b2, b3⟩ | ⟨b1, b2, b3, b4⟩ | ⟨b1, b2, b3, b4⟩ | ⟨b1, b2, b3, b4, b5, b6⟩ | ⟨b1, b2, b3, b4, b5⟩
      · refine sOut.uniq (by omega) a3 b3 (fun i hi => ?_)
        by_cases e : i = fnd.toNat
        · rw [e, show upd g fnd.toNat _ fnd.toNat = _ from if_pos rfl, show upd f fnd.toNat _ fnd.toNat = _ from if_pos rfl]
        · rw [show upd g fnd.toNat _ i = g i from if_neg e, show upd f fnd.toNat _ i = f i from if_neg e]
          exact he i (by omega)
      · omega
      · omega
      · omega
      · exact absurd a1 b1
    · rcases c2 with ⟨b1, b2, b3⟩ | ⟨b1, b2, b3, b4⟩ | ⟨b1, b2, b3, b4⟩ | ⟨b1, b2, b3, b4, b5, b6⟩ | ⟨b1, b2, b3, b4, b5⟩
      · omega
      · exact ⟨by omega, fun _ => by omega, fun h => by omega⟩
      · omega
      · omega
      · exact absurd a1 b1
    · have ev := e4 (Or.inr a1)
      subst ev
      rcases c2 with ⟨b1, b2, b3⟩ | ⟨b1, b2, b3, b4⟩ | ⟨b1, b2, b3, b4⟩ | ⟨b1, b2, b3, b4, b5, b6⟩ | ⟨b1, b2, b3, b4, b5⟩
      · omega
      · omega
      · exact sOut.uniq h0 a4 b4 he
      · omega
      · exact absurd ⟨a1, a2, a3⟩ b2
    · rcases c2 with ⟨b1, b2, b3⟩ | ⟨b1, b2, b3, b4⟩ | ⟨b1, b2, b3, b4⟩ | ⟨b1, b2, b3, b4, b5, b6⟩ | ⟨b1, b2, b3, b4, b5⟩
      · omega
      · omega
      · omega
      · exact ⟨by omega, fun h => by omega, fun _ => ⟨by omega, fun i hi => by rw [a6, b6]; exact he i (by omega)⟩⟩
      · exact absurd ⟨a1, a2, a3⟩ b3
    · rcases c2 with ⟨b1, b2, b3⟩ | ⟨b1, b2, b3, b4⟩ | ⟨b1, b2, b3, b4⟩ | ⟨b1, b2, b3, b4, b5, b6⟩ | ⟨b1, b2, b3, b4, b5⟩
      · exact absurd b1 a1
      · exact absurd b1 a1
      · exact absurd ⟨b1, (e4 (Or.inr b1)).trans b2, b3⟩ a2
      · exact absurd ⟨b1, b2, b3⟩ a3
      · exact ⟨by omega, fun _ => by omega, fun h => by omega⟩
theorem sOut.eq {b b' : Nat → Int32} {n : Int} (hb : ∀ i : Nat, (i : Int) < n → b' i = b i) : ∀ {m : Nat} {p fnd mi : Int} {f f' : Nat → Int32} {kd pc ct : Int}, 0 ≤ p → sOut b n m p fnd mi f kd pc ct f' → sOut b' n m p fnd mi f kd pc ct f'
  | 0, _, _, _, _, _, _, _, _, _, h => h.elim
  | m + 1, p, fnd, mi, f, f', kd, pc, ct, h0, h => by
    obtain ⟨k, pl, v, q, t1, c1⟩ := h
    have hq : 0 ≤ q := by
      have h1 := t1.1.1.1
      rcases t1.2 with ⟨-, -, a⟩ | ⟨-, -, a, -⟩ | ⟨-, -, a, -⟩ | ⟨-, -, -, a, -⟩
      · omega
      · have := a.1.1; omega
      · have := a.1.1; omega
      · omega
    refine ⟨k, pl, v, q, t1.eq hb h0, ?_⟩
    rcases c1 with ⟨a1, a2, a3⟩ | c1 | ⟨a1, a2, a3, a4⟩ | c1 | c1
    · exact Or.inl ⟨a1, a2, sOut.eq hb hq a3⟩
    · exact Or.inr (Or.inl c1)
    · exact Or.inr (Or.inr (Or.inl ⟨a1, a2, a3, sOut.eq hb hq a4⟩))
    · exact Or.inr (Or.inr (Or.inr (Or.inl c1)))
    · exact Or.inr (Or.inr (Or.inr (Or.inr c1)))
theorem sOut.cast {b : Nat → Int32} {n : Int} {m : Nat} {p p' fnd fnd' mi mi' kd pc ct : Int} {f f' g : Nat → Int32} (h : sOut b n m p fnd mi f kd pc ct g) (e1 : p' = p) (e2 : fnd' = fnd) (e3 : mi' = mi) (e4 : f' = f) : sOut b n m p' fnd' mi' f' kd pc ct g := by
  rw [e1, e2, e3, e4]; exact h
theorem i32_neg {x : Int32} {v : Int} (h : v = x.toInt) : Int32.ofInt (-v) = -x := by
  rw [h, Int32.ofInt_neg, Int32.ofInt_toInt]
theorem i32_pos {x : Int32} {v : Int} (h : v = x.toInt) : Int32.ofInt v = x := by
  rw [h, Int32.ofInt_toInt]
theorem copy_1 {f g : Nat → Int32} {x y : Int} {v : Int32} (h0 : 0 ≤ x) (hy : y = x + 1) (h : ∀ i : Nat, (i : Int) < x → f i = g i) (hv : v = g x.toNat) : ∀ i : Nat, (i : Int) < y → upd f x.toNat v i = g i := fun i hi => by
  by_cases e : i = x.toNat
  · rw [e, show upd f x.toNat v x.toNat = v from if_pos rfl, hv]
  · rw [show upd f x.toNat v i = f i from if_neg e]; exact h i (by omega)
