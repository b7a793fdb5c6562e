def bt_CT : Nat → Nat → Nat
  | 0, _ => 0
  | w + 1, q => q % 2 + bt_CT w (q / 2)
theorem bt_and {a b c d : Nat} (hb : b < 2) (hd : d < 2) : (2 * a + b) &&& (2 * c + d) = 2 * (a &&& c) + (b &&& d) := by
  have h1 : ((2 * a + b) &&& (2 * c + d)) / 2 = a &&& c := by
    rw [Nat.and_div_two, show (2 * a + b) / 2 = a by omega, show (2 * c + d) / 2 = c by omega]
  have h2 : ((2 * a + b) &&& (2 * c + d)) % 2 = b &&& d := by
    have := Nat.and_mod_two_pow (a := 2 * a + b) (b := 2 * c + d) (n := 1)
    rw [show 2 ^ 1 = 2 from rfl] at this
    rw [this, show (2 * a + b) % 2 = b by omega, show (2 * c + d) % 2 = d by omega]
  omega
def bt_tm : Nat → Nat → Nat
  | _, 0 => 0
  | q, k + 1 => bt_tm q k + q / 2 ^ k % 2

theorem bt_ct1 : ∀ k q, bt_CT (k + 1) q = bt_CT k q + q / 2 ^ k % 2
  | 0, q => by show q % 2 + 0 = 0 + q / 1 % 2; rw [Nat.div_one]; omega
  | k + 1, q => by
    show q % 2 + bt_CT (k + 1) (q / 2) = (q % 2 + bt_CT k (q / 2)) + q / 2 ^ (k + 1) % 2
    rw [bt_ct1 k (q / 2), Nat.div_div_eq_div_mul, Nat.pow_succ, Nat.mul_comm 2]
    omega
theorem bt_tmct : ∀ k q, bt_tm q k = bt_CT k q
  | 0, _ => rfl
  | k + 1, q => by rw [bt_ct1]; show bt_tm q k + _ = _; rw [bt_tmct k q]
theorem bt_ct16 {q : Nat} (h : q < 65536) : ∀ j, bt_CT (16 + j) q = bt_CT 16 q
  | 0 => rfl
  | j + 1 => by
    show bt_CT (16 + j + 1) q = _
    rw [bt_ct1, bt_ct16 h j, Nat.div_eq_of_lt (Nat.lt_of_lt_of_le h (by rw [Nat.pow_add]; exact Nat.le_mul_of_pos_right _ (Nat.two_pow_pos j))), Nat.zero_mod, Nat.add_zero]
theorem bt_kern : ∀ w q, q < 2 ^ w → q ≠ 0 → bt_CT w (q &&& (q - 1)) + 1 = bt_CT w q
  | 0, q, h, h2 => by omega
  | w + 1, q, h, h2 => by
    rw [Nat.pow_succ] at h
    unfold bt_CT
    rw [Nat.and_div_two]
    by_cases e : q % 2 = 1
    · have e3 := bt_and (a := q / 2) (b := 1) (c := q / 2) (d := 0) (by omega) (by omega)
      rw [show 2 * (q / 2) + 1 = q by omega, show 2 * (q / 2) + 0 = q - 1 by omega, Nat.and_zero, Nat.and_self] at e3
      rw [e3, show (q - 1) / 2 = q / 2 by omega, Nat.and_self]
      omega
    · have e3 := bt_and (a := q / 2) (b := 0) (c := q / 2 - 1) (d := 1) (by omega) (by omega)
      rw [show 2 * (q / 2) + 0 = q by omega, show 2 * (q / 2 - 1) + 1 = q - 1 by omega, Nat.zero_and] at e3
      have ih := bt_kern w (q / 2) (by omega) (by omega)
      rw [e3, show (q - 1) / 2 = q / 2 - 1 by omega]
      omega
theorem bt_ct0 : ∀ w, bt_CT w 0 = 0
  | 0 => rfl
  | w + 1 => by show 0 % 2 + bt_CT w (0 / 2) = 0; rw [show 0 / 2 = 0 from rfl, bt_ct0 w]
theorem bt_ctle : ∀ w q, bt_CT w q ≤ w
  | 0, _ => Nat.le_refl _
  | w + 1, q => by have := bt_ctle w (q / 2); show q % 2 + bt_CT w (q / 2) ≤ w + 1; omega
/-- the teeth of a set, as far as the first k places tell -/
theorem bt_tmmono (q : Nat) {k : Nat} : ∀ n, bt_tm q k ≤ bt_tm q (k + n)
  | 0 => Nat.le_refl _
  | n + 1 => by have := bt_tmmono q (k := k) n; show bt_tm q k ≤ bt_tm q (k + n) + _; omega
theorem bi_nat {x : Int32} (h0 : 0 ≤ x.toInt) : x.toBitVec.toNat = x.toInt.toNat := by
  have e1 : x.toInt = if 2 * x.toBitVec.toNat < 2 ^ 32 then (x.toBitVec.toNat : Int) else (x.toBitVec.toNat : Int) - ((2 ^ 32 : Nat) : Int) := BitVec.toInt_eq_toNat_cond _
  have := x.toBitVec.isLt
  split at e1 <;> omega
theorem bi_and {x : Int32} (h0 : 0 < x.toInt) : (x &&& (x - 1)).toInt = ((x.toInt.toNat &&& (x.toInt.toNat - 1) : Nat) : Int) := by
  have hr := ti_rng x
  have e1 : (x - 1).toInt = x.toInt - 1 := ti_sub rfl (show (1 : Int32).toInt = 1 from rfl) (by omega) (by omega)
  have n1 := bi_nat (x := x) (by omega)
  have n2 := bi_nat (x := x - 1) (by omega)
  have h3 := ti_andm (x := x) (y := x - 1) e1 (by omega)
  have n3 := bi_nat (x := x &&& (x - 1)) h3.1
  have e2 : (x &&& (x - 1)).toBitVec.toNat = x.toBitVec.toNat &&& (x - 1).toBitVec.toNat := BitVec.toNat_and _ _
  rw [n1, n2, e1, n3, show (x.toInt - 1).toNat = x.toInt.toNat - 1 by omega] at e2
  rw [← e2]
  omega
theorem bi_bit {x k : Int32} (h0 : 0 ≤ x.toInt) (k0 : 0 ≤ k.toInt) (k1 : k.toInt < 16) : ((x >>> (k &&& 31)) &&& 1).toInt = ((x.toInt.toNat / 2 ^ k.toInt.toNat % 2 : Nat) : Int) := by
  obtain ⟨j, hj⟩ : ∃ j : Nat, k.toInt = j := ⟨k.toInt.toNat, by omega⟩
  have hk : k = Int32.ofNat j := by
    apply Int32.toInt_inj.mp
    rw [hj, Int32.toInt_ofNat_of_lt (by omega)]
  have n1 := bi_nat h0
  have h3 := ti_andm (x := x >>> (k &&& 31)) (y := 1) (b := 1) rfl (by decide)
  have n3 := bi_nat h3.1
  have hm : x.toBitVec.msb = false := by
    rw [BitVec.msb_eq_toInt]
    have : x.toBitVec.toInt = x.toInt := rfl
    rw [this]; simp; omega
  have e2 : (x >>> (k &&& 31) &&& 1).toBitVec.toNat = x.toBitVec.toNat / 2 ^ j % 2 := by
    have e5 : (x >>> (k &&& 31)).toBitVec = x.toBitVec >>> j := by
      rw [hk]
      have : j = 0 ∨ j = 1 ∨ j = 2 ∨ j = 3 ∨ j = 4 ∨ j = 5 ∨ j = 6 ∨ j = 7 ∨ j = 8 ∨ j = 9 ∨ j = 10 ∨ j = 11 ∨ j = 12 ∨ j = 13 ∨ j = 14 ∨ j = 15 := by omega
      rcases this with rfl | rfl | rfl | rfl | rfl | rfl | rfl | rfl | rfl | rfl | rfl | rfl | rfl | rfl | rfl | rfl <;> (show x.toBitVec.sshiftRight _ = _; rw [BitVec.sshiftRight_eq_of_msb_false hm]; rfl)
    show ((x >>> (k &&& 31)).toBitVec &&& (1 : Int32).toBitVec).toNat = _
    rw [e5, BitVec.toNat_and, BitVec.toNat_ushiftRight, Nat.shiftRight_eq_div_pow]
    show _ &&& 1 = _
    rw [Nat.and_one_is_mod]
  rw [n3, n1] at e2
  rw [show k.toInt.toNat = j by omega, ← e2]
  omega
