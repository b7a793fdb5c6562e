/-! sets of teeth out of a list, one behind the other -/
/-- k bits of s, all of them in l -/
def sb : Nat → Nat → Nat → Prop
  | 0, s, _ => s = 0
  | k + 1, s, l => s % 2 ≤ l % 2 ∧ sb k (s / 2) (l / 2)
/-- the next set of l behind s; 0: none -/
def nx : Nat → Nat → Nat → Nat
  | 0, _, _ => 0
  | k + 1, l, s => if l % 2 = 1 ∧ s % 2 = 0 then s + 1 else 2 * nx k (l / 2) (s / 2)
def rk : Nat → Nat → Nat → Nat
  | 0, _, _ => 0
  | k + 1, l, s => if l % 2 = 1 then s % 2 + 2 * rk k (l / 2) (s / 2) else rk k (l / 2) (s / 2)
theorem sb_nx : ∀ {k s l : Nat}, sb k s l → sb k (nx k l s) l
  | 0, _, _, _ => rfl
  | k + 1, s, l, h => by
    obtain ⟨h1, h2⟩ := h
    show nx (k + 1) l s % 2 ≤ l % 2 ∧ sb k (nx (k + 1) l s / 2) (l / 2)
    unfold nx
    by_cases c : l % 2 = 1 ∧ s % 2 = 0
    · rw [if_pos c, show (s + 1) / 2 = s / 2 by omega]
      exact ⟨by omega, h2⟩
    · rw [if_neg c, show 2 * nx k (l / 2) (s / 2) / 2 = nx k (l / 2) (s / 2) by omega]
      exact ⟨by omega, sb_nx h2⟩
theorem nx_lt : ∀ {k s l : Nat}, sb k s l → nx k l s ≠ 0 → s < nx k l s ∧ ∀ u : Nat, sb k u l → s < u → nx k l s ≤ u
  | 0, _, _, _, n => absurd rfl n
  | k + 1, s, l, h, n => by
    obtain ⟨h1, h2⟩ := h
    unfold nx at n ⊢
    by_cases c : l % 2 = 1 ∧ s % 2 = 0
    · rw [if_pos c]
      exact ⟨by omega, fun u _ hu => by omega⟩
    · rw [if_neg c] at n ⊢
      obtain ⟨i1, i2⟩ := nx_lt h2 (by omega)
      refine ⟨by omega, fun u hu hs => ?_⟩
      obtain ⟨u1, u2⟩ := hu
      have a : s / 2 < u / 2 := by
        rcases (show s / 2 < u / 2 ∨ u / 2 ≤ s / 2 by omega) with q | q
        · exact q
        · exact absurd (show l % 2 = 1 ∧ s % 2 = 0 by omega) c
      have b := i2 _ u2 a
      omega
theorem nx_0 : ∀ {k s l : Nat}, sb k s l → nx k l s = 0 → ∀ u : Nat, sb k u l → u ≤ s
  | 0, _, _, _, _, u, hu => by
    have h : u = 0 := hu
    omega
  | k + 1, s, l, h, n, u, hu => by
    obtain ⟨h1, h2⟩ := h
    obtain ⟨u1, u2⟩ := hu
    unfold nx at n
    by_cases c : l % 2 = 1 ∧ s % 2 = 0
    · rw [if_pos c] at n
      omega
    · rw [if_neg c] at n
      have a := nx_0 h2 (by omega) _ u2
      rcases (show u ≤ s ∨ s < u by omega) with q | q
      · exact q
      · exact absurd (show l % 2 = 1 ∧ s % 2 = 0 by omega) c
theorem rk_lt : ∀ {k s l : Nat}, rk k l s < 2 ^ bt_CT k l
  | 0, _, _ => by
    show 0 < 2 ^ 0
    decide
  | k + 1, s, l => by
    have a := rk_lt (k := k) (s := s / 2) (l := l / 2)
    unfold rk bt_CT
    by_cases c : l % 2 = 1
    · rw [if_pos c, c, Nat.add_comm 1, Nat.pow_succ]
      omega
    · rw [if_neg c, show l % 2 = 0 by omega, Nat.zero_add]
      exact a
theorem rk_mono : ∀ {k s u l : Nat}, sb k s l → sb k u l → s < u → rk k l s < rk k l u
  | 0, s, u, _, _, hu, h => by
    have e : u = 0 := hu
    omega
  | k + 1, s, u, l, hs, hu, h => by
    obtain ⟨s1, s2⟩ := hs
    obtain ⟨u1, u2⟩ := hu
    unfold rk
    rcases (show s / 2 < u / 2 ∨ s / 2 = u / 2 by omega) with q | q
    · have a := rk_mono s2 u2 q
      by_cases c : l % 2 = 1
      · rw [if_pos c, if_pos c]
        omega
      · rw [if_neg c, if_neg c]
        exact a
    · rw [if_pos (by omega), if_pos (by omega), q]
      omega
theorem sb.rf : ∀ {k l : Nat}, l < 2 ^ k → sb k l l
  | 0, l, h => by
    have e : l < 1 := h
    show l = 0
    omega
  | k + 1, l, h => ⟨Nat.le_refl _, sb.rf (by rw [Nat.pow_succ] at h; omega)⟩
theorem sb.zero : ∀ {k l : Nat}, sb k 0 l
  | 0, _ => rfl
  | k + 1, l => ⟨Nat.zero_le _, sb.zero⟩
theorem sb.le : ∀ {k s l : Nat}, sb k s l → s ≤ l
  | 0, s, l, h => by
    have e : s = 0 := h
    omega
  | k + 1, s, l, h => by
    obtain ⟨h1, h2⟩ := h
    have a := sb.le h2
    omega
theorem an_rec (a b : Nat) : a &&& b = 2 * ((a / 2) &&& (b / 2)) + (a % 2) * (b % 2) := by
  have h1 : (a &&& b) / 2 = (a / 2) &&& (b / 2) := by
    have h := Nat.and_div_two (a := a) (b := b)
    exact h
  have h2 : (a &&& b) % 2 = (a % 2) * (b % 2) := by
    have h := Nat.and_mod_two_pow (a := a) (b := b) (n := 1)
    rw [Nat.pow_one] at h
    rw [h]
    rcases Nat.mod_two_eq_zero_or_one a with e | e <;> rcases Nat.mod_two_eq_zero_or_one b with f | f <;> rw [e, f] <;> rfl
  omega
/-- what is not in l, beside s -/
theorem nx_inv : ∀ {k w s l : Nat}, k ≤ w → sb k s l → l < 2 ^ k → (2 ^ w - 1 - (l - s)) &&& l = s
  | 0, w, s, l, _, h, hl => by
    have e : s = 0 := h
    have f : l < 1 := hl
    rw [show l = 0 by omega, Nat.and_zero, e]
  | k + 1, 0, _, _, hw, _, _ => by omega
  | k + 1, w + 1, s, l, hw, h, hl => by
    have g := h
    obtain ⟨h1, h2⟩ := h
    have hl2 : l / 2 < 2 ^ k := by rw [Nat.pow_succ] at hl; omega
    have i := nx_inv (show k ≤ w by omega) h2 hl2
    have z := sb.le h2
    have p : 2 ^ k ≤ 2 ^ w := Nat.pow_le_pow_right (by decide) (by omega)
    have e2 : (2 ^ (w + 1) - 1 - (l - s)) / 2 = 2 ^ w - 1 - (l / 2 - s / 2) := by rw [Nat.pow_succ]; omega
    have e3 : (2 ^ (w + 1) - 1 - (l - s)) % 2 = 1 - (l % 2 - s % 2) := by rw [Nat.pow_succ]; omega
    rw [an_rec, e2, e3, i]
    rcases Nat.mod_two_eq_zero_or_one l with c | c <;> rcases Nat.mod_two_eq_zero_or_one s with d | d <;> rw [c, d] <;> omega
theorem nx_and : ∀ {k w s l : Nat}, k ≤ w → sb k s l → l < 2 ^ k → ((2 ^ w - l + s) % 2 ^ w) &&& l = nx k l s
  | 0, w, s, l, _, h, hl => by
    have f : l < 1 := hl
    rw [show l = 0 by omega, Nat.and_zero]
    rfl
  | k + 1, 0, _, _, hw, _, _ => by omega
  | k + 1, w + 1, s, l, hw, h, hl => by
    obtain ⟨h1, h2⟩ := h
    have hl2 : l / 2 < 2 ^ k := by rw [Nat.pow_succ] at hl; omega
    have z := sb.le h2
    have p : 2 ^ k ≤ 2 ^ w := Nat.pow_le_pow_right (by decide) (by omega)
    have pw : 2 ^ (w + 1) = 2 * 2 ^ w := by rw [Nat.pow_succ]; omega
    unfold nx
    by_cases c : l % 2 = 1 ∧ s % 2 = 0
    · have e1 : (2 ^ (w + 1) - l + s) % 2 ^ (w + 1) = 2 ^ (w + 1) - l + s := Nat.mod_eq_of_lt (by omega)
      have e2 : (2 ^ (w + 1) - l + s) / 2 = 2 ^ w - 1 - (l / 2 - s / 2) := by omega
      have e3 : (2 ^ (w + 1) - l + s) % 2 = 1 := by omega
      rw [if_pos c, e1, an_rec, e2, e3, nx_inv (show k ≤ w by omega) h2 hl2, c.1]
      omega
    · have d : l % 2 = s % 2 := by omega
      have e0 : 2 ^ (w + 1) - l + s = 2 * (2 ^ w - l / 2 + s / 2) := by omega
      have e1 : (2 ^ (w + 1) - l + s) % 2 ^ (w + 1) = 2 * ((2 ^ w - l / 2 + s / 2) % 2 ^ w) := by rw [e0, pw, Nat.mul_mod_mul_left]
      rw [if_neg c, e1, an_rec, show 2 * ((2 ^ w - l / 2 + s / 2) % 2 ^ w) / 2 = (2 ^ w - l / 2 + s / 2) % 2 ^ w by omega, show 2 * ((2 ^ w - l / 2 + s / 2) % 2 ^ w) % 2 = 0 by omega, nx_and (show k ≤ w by omega) h2 hl2]
      omega
/-- what isn't in l at all -/
theorem sb_and : ∀ {k w s l : Nat}, k ≤ w → s < 2 ^ k → l < 2 ^ k → ((s &&& (2 ^ w - 1 - l)) = 0 ↔ sb k s l)
  | 0, w, s, l, _, hs, hl => by
    have e : s < 1 := hs
    rw [show s = 0 by omega, Nat.zero_and]
    exact ⟨fun _ => rfl, fun _ => rfl⟩
  | k + 1, 0, _, _, hw, _, _ => by omega
  | k + 1, w + 1, s, l, hw, hs, hl => by
    have hl2 : l / 2 < 2 ^ k := by rw [Nat.pow_succ] at hl; omega
    have hs2 : s / 2 < 2 ^ k := by rw [Nat.pow_succ] at hs; omega
    have p : 2 ^ k ≤ 2 ^ w := Nat.pow_le_pow_right (by decide) (by omega)
    have pw : 2 ^ (w + 1) = 2 * 2 ^ w := by rw [Nat.pow_succ]; omega
    have i := sb_and (show k ≤ w by omega) hs2 hl2
    have e2 : (2 ^ (w + 1) - 1 - l) / 2 = 2 ^ w - 1 - l / 2 := by omega
    have e3 : (2 ^ (w + 1) - 1 - l) % 2 = 1 - l % 2 := by omega
    rw [an_rec, e2, e3]
    show _ ↔ (s % 2 ≤ l % 2 ∧ sb k (s / 2) (l / 2))
    rw [← i]
    rcases Nat.mod_two_eq_zero_or_one l with c | c <;> rcases Nat.mod_two_eq_zero_or_one s with d | d <;> rw [c, d] <;> constructor <;> intro h <;> omega
