/-! sets of teeth as bits -/
def bt_CT : Nat → Nat → Nat
  | 0, _ => 0
  | w + 1, q => q % 2 + bt_CT w (q / 2)
def bt_SM : Nat → Nat → Nat → Prop
  | 0, _, z => z = 0
  | w + 1, L, z => z % 2 ≤ L % 2 ∧ bt_SM w (L / 2) (z / 2)
def bt_NX : Nat → Nat → Nat → Nat
  | 0, _, _ => 0
  | w + 1, L, z => if L % 2 = 1 ∧ z % 2 = 0 then 2 * (z / 2) + 1 else 2 * bt_NX w (L / 2) (z / 2)
def bt_RK : Nat → Nat → Nat → Nat
  | 0, _, _ => 0
  | w + 1, L, z => if L % 2 = 1 then 2 * bt_RK w (L / 2) (z / 2) + z % 2 else bt_RK w (L / 2) (z / 2)
theorem bt_sm0 : ∀ w L, bt_SM w L 0
  | 0, _ => rfl
  | w + 1, L => ⟨Nat.zero_le _, bt_sm0 w (L / 2)⟩
theorem bt_smle : ∀ w L z, bt_SM w L z → z ≤ L
  | 0, L, z, h => by have : z = 0 := h; omega
  | w + 1, L, z, h => by
    have := bt_smle w _ _ h.2
    have := h.1
    omega
theorem bt_nx : ∀ w L z, bt_SM w L z → L < 2 ^ w → bt_SM w L (bt_NX w L z) ∧ (bt_NX w L z = 0 ∧ z = L ∨ z < bt_NX w L z ∧ bt_RK w L (bt_NX w L z) = bt_RK w L z + 1)
  | 0, L, z, h, hL => ⟨rfl, Or.inl ⟨rfl, by have : z = 0 := h; omega⟩⟩
  | w + 1, L, z, h, hL => by
    obtain ⟨h1, h2⟩ := h
    have ih := bt_nx w _ _ h2 (by rw [Nat.pow_succ] at hL; omega)
    unfold bt_NX bt_SM bt_RK
    by_cases hc : L % 2 = 1 ∧ z % 2 = 0
    · rw [if_pos hc, if_pos hc.1, if_pos hc.1]
      have e1 : (2 * (z / 2) + 1) / 2 = z / 2 := by omega
      rw [e1]
      exact ⟨⟨by omega, h2⟩, Or.inr ⟨by omega, by omega⟩⟩
    · rw [if_neg hc]
      have e1 : 2 * bt_NX w (L / 2) (z / 2) / 2 = bt_NX w (L / 2) (z / 2) := by omega
      have e2 : 2 * bt_NX w (L / 2) (z / 2) % 2 = 0 := by omega
      rw [e1, e2]
      refine ⟨⟨Nat.zero_le _, ih.1⟩, ?_⟩
      rcases ih.2 with ⟨a, b⟩ | ⟨a, b⟩
      · refine Or.inl ⟨by omega, by omega⟩
      · refine Or.inr ⟨by omega, ?_⟩
        split
        · omega
        · exact b
theorem bt_gap : ∀ w L z v, bt_SM w L z → bt_SM w L v → z < v → 0 < bt_NX w L z ∧ bt_NX w L z ≤ v
  | 0, L, z, v, h, h2, h3 => by have : v = 0 := h2; omega
  | w + 1, L, z, v, h, h2, h3 => by
    unfold bt_NX
    by_cases hc : L % 2 = 1 ∧ z % 2 = 0
    · rw [if_pos hc]; omega
    · rw [if_neg hc]
      have a1 := h.1
      have a2 := h2.1
      have := bt_gap w _ _ _ h.2 h2.2 (by omega)
      omega
theorem bt_rk : ∀ w L z, bt_RK w L z < 2 ^ bt_CT w L
  | 0, _, _ => Nat.zero_lt_one
  | w + 1, L, z => by
    have ih := bt_rk w (L / 2) (z / 2)
    unfold bt_RK bt_CT
    by_cases h : L % 2 = 1
    · rw [if_pos h, h, Nat.pow_add, show 2 ^ 1 = 2 from rfl]; omega
    · rw [if_neg h, show L % 2 = 0 by omega, Nat.zero_add]; exact ih
theorem bt_rk0 : ∀ w L, bt_RK w L 0 = 0
  | 0, _ => rfl
  | w + 1, L => by
    unfold bt_RK
    rw [show 0 / 2 = 0 from rfl, bt_rk0 w (L / 2)]
    split <;> rfl
theorem bt_and {a b c d : Nat} (hb : b < 2) (hd : d < 2) : (2 * a + b) &&& (2 * c + d) = 2 * (a &&& c) + (b &&& d) := by
  have h1 : ((2 * a + b) &&& (2 * c + d)) / 2 = a &&& c := by
    rw [Nat.and_div_two, show (2 * a + b) / 2 = a by omega, show (2 * c + d) / 2 = c by omega]
  have h2 : ((2 * a + b) &&& (2 * c + d)) % 2 = b &&& d := by
    have := Nat.and_mod_two_pow (a := 2 * a + b) (b := 2 * c + d) (n := 1)
    rw [show 2 ^ 1 = 2 from rfl] at this
    rw [this, show (2 * a + b) % 2 = b by omega, show (2 * c + d) % 2 = d by omega]
  omega
theorem bt_m1 : ∀ w L z, bt_SM w L z → L < 2 ^ w → ((z + 2 ^ w - L - 1) % 2 ^ w) &&& L = z
  | 0, L, z, h, hL => by
    have : z = 0 := h
    have : L = 0 := by omega
    subst this; subst z; rfl
  | w + 1, L, z, h, hL => by
    obtain ⟨h1, h2⟩ := h
    rw [Nat.pow_succ] at hL ⊢
    have hz := bt_smle w _ _ h2
    have hp : 0 < 2 ^ w := Nat.two_pow_pos w
    have ih := bt_m1 w _ _ h2 (by omega)
    generalize 2 ^ w = P at *
    have key : ∀ b c : Nat, L % 2 = b → z % 2 = c → (z + P * 2 - L - 1) % (P * 2) = 2 * ((z / 2 + P - L / 2 - 1) % P) + (1 + c - b) % 2 → ((z + P * 2 - L - 1) % (P * 2)) &&& L = z := by
      intro b c hb hc e
      rw [e]
      have e2 : L = 2 * (L / 2) + b := by omega
      have e3 := bt_and (a := (z / 2 + P - L / 2 - 1) % P) (b := (1 + c - b) % 2) (c := L / 2) (d := b) (by omega) (by omega)
      rw [← e2] at e3
      rw [e3, ih]
      have : (1 + c - b) % 2 &&& b = c := by
        have : (b = 0 ∧ c = 0) ∨ (b = 1 ∧ c = 0) ∨ (b = 1 ∧ c = 1) := by omega
        rcases this with ⟨rfl, rfl⟩ | ⟨rfl, rfl⟩ | ⟨rfl, rfl⟩ <;> rfl
      omega
    refine key _ _ rfl rfl ?_
    have hm : ∀ x : Nat, x < 2 * P → x % P = if x < P then x else x - P := by
      intro x hx
      split
      · exact Nat.mod_eq_of_lt (by assumption)
      · rw [Nat.mod_eq_sub_mod (by omega), Nat.mod_eq_of_lt (by omega)]
    have hm2 : ∀ x : Nat, x < 2 * (P * 2) → x % (P * 2) = if x < P * 2 then x else x - P * 2 := by
      intro x hx
      split
      · exact Nat.mod_eq_of_lt (by assumption)
      · rw [Nat.mod_eq_sub_mod (by omega), Nat.mod_eq_of_lt (by omega)]
    rw [hm _ (by omega), hm2 _ (by omega)]
    split <;> split <;> omega
theorem bt_m0 : ∀ w L z, bt_SM w L z → L < 2 ^ w → ((z + 2 ^ w - L) % 2 ^ w) &&& L = bt_NX w L z
  | 0, L, z, h, hL => by
    have : z = 0 := h
    have : L = 0 := by omega
    subst this; subst z; rfl
  | w + 1, L, z, h, hL => by
    obtain ⟨h1, h2⟩ := h
    rw [Nat.pow_succ] at hL ⊢
    have hz := bt_smle w _ _ h2
    have hp : 0 < 2 ^ w := Nat.two_pow_pos w
    have ih := bt_m0 w _ _ h2 (by omega)
    have ih1 := bt_m1 w _ _ h2 (by omega)
    generalize 2 ^ w = P at *
    have hm : ∀ x : Nat, x < 2 * P → x % P = if x < P then x else x - P := by
      intro x hx
      split
      · exact Nat.mod_eq_of_lt (by assumption)
      · rw [Nat.mod_eq_sub_mod (by omega), Nat.mod_eq_of_lt (by omega)]
    have hm2 : ∀ x : Nat, x < 2 * (P * 2) → x % (P * 2) = if x < P * 2 then x else x - P * 2 := by
      intro x hx
      split
      · exact Nat.mod_eq_of_lt (by assumption)
      · rw [Nat.mod_eq_sub_mod (by omega), Nat.mod_eq_of_lt (by omega)]
    unfold bt_NX
    by_cases hc : L % 2 = 1 ∧ z % 2 = 0
    · rw [if_pos hc]
      have e : (z + P * 2 - L) % (P * 2) = 2 * ((z / 2 + P - L / 2 - 1) % P) + 1 := by
        rw [hm _ (by omega), hm2 _ (by omega)]
        split <;> split <;> omega
      rw [e]
      have e3 := bt_and (a := (z / 2 + P - L / 2 - 1) % P) (b := 1) (c := L / 2) (d := 1) (by omega) (by omega)
      rw [show 2 * (L / 2) + 1 = L by omega, ih1] at e3
      rw [e3]; rfl
    · rw [if_neg hc]
      have e : (z + P * 2 - L) % (P * 2) = 2 * ((z / 2 + P - L / 2) % P) + 0 := by
        rw [hm _ (by omega), hm2 _ (by omega)]
        split <;> split <;> omega
      rw [e]
      have e3 := bt_and (a := (z / 2 + P - L / 2) % P) (b := 0) (c := L / 2) (d := L % 2) (by omega) (by omega)
      rw [show 2 * (L / 2) + L % 2 = L by omega, ih] at e3
      rw [e3, Nat.zero_and]; rfl
-- which numbers are sets of the list
theorem bt_smI : ∀ w L v, L < 2 ^ w → v < 2 ^ w → (v &&& (2 ^ w - 1 - L) = 0 ↔ bt_SM w L v)
  | 0, L, v, h1, h2 => by
    have : v = 0 := by omega
    subst this
    exact ⟨fun _ => rfl, fun _ => Nat.zero_and _⟩
  | w + 1, L, v, h1, h2 => by
    rw [Nat.pow_succ] at h1 h2 ⊢
    have ih := bt_smI w (L / 2) (v / 2) (by omega) (by omega)
    have e3 := bt_and (a := v / 2) (b := v % 2) (c := 2 ^ w - 1 - L / 2) (d := 1 - L % 2) (by omega) (by omega)
    rw [show 2 * (v / 2) + v % 2 = v by omega, show 2 * (2 ^ w - 1 - L / 2) + (1 - L % 2) = 2 ^ w * 2 - 1 - L by omega] at e3
    rw [e3]
    unfold bt_SM
    rw [← ih]
    have : (v % 2 = 0 ∨ v % 2 = 1) ∧ (L % 2 = 0 ∨ L % 2 = 1) := by omega
    obtain ⟨a | a, b | b⟩ := this <;> rw [a, b] <;> simp <;> omega

/-- the bits counted as Integer.bitCount does -/
def bt_a (q : Nat) : Nat := q - ((q >>> 1) &&& 1431655765)
def bt_b (q : Nat) : Nat := (bt_a q &&& 858993459) + ((bt_a q >>> 2) &&& 858993459)
def bt_c (q : Nat) : Nat := (bt_b q + (bt_b q >>> 4)) &&& 252645135
def bt_d (q : Nat) : Nat := bt_c q + (bt_c q >>> 8)
def bt_e (q : Nat) : Nat := bt_d q + (bt_d q >>> 16)
def bt_tm : Nat → Nat → Nat
  | _, 0 => 0
  | q, k + 1 => bt_tm q k + q / 2 ^ k % 2

theorem bt_ct1 : ∀ k q, bt_CT (k + 1) q = bt_CT k q + q / 2 ^ k % 2
  | 0, q => by show q % 2 + 0 = 0 + q / 1 % 2; rw [Nat.div_one]; omega
  | k + 1, q => by
    show q % 2 + bt_CT (k + 1) (q / 2) = (q % 2 + bt_CT k (q / 2)) + q / 2 ^ (k + 1) % 2
    rw [bt_ct1 k (q / 2), Nat.div_div_eq_div_mul, Nat.pow_succ, Nat.mul_comm 2]
    omega
theorem bt_tmct : ∀ k q, bt_tm q k = bt_CT k q
  | 0, _ => rfl
  | k + 1, q => by rw [bt_ct1]; show bt_tm q k + _ = _; rw [bt_tmct k q]
theorem bt_ct16 {q : Nat} (h : q < 65536) : ∀ j, bt_CT (16 + j) q = bt_CT 16 q
  | 0 => rfl
  | j + 1 => by
    show bt_CT (16 + j + 1) q = _
    rw [bt_ct1, bt_ct16 h j, Nat.div_eq_of_lt (Nat.lt_of_lt_of_le h (by rw [Nat.pow_add]; exact Nat.le_mul_of_pos_right _ (Nat.two_pow_pos j))), Nat.zero_mod, Nat.add_zero]
theorem bt_kern : ∀ w q, q < 2 ^ w → q ≠ 0 → bt_CT w (q &&& (q - 1)) + 1 = bt_CT w q
  | 0, q, h, h2 => by omega
  | w + 1, q, h, h2 => by
    rw [Nat.pow_succ] at h
    unfold bt_CT
    rw [Nat.and_div_two]
    by_cases e : q % 2 = 1
    · have e3 := bt_and (a := q / 2) (b := 1) (c := q / 2) (d := 0) (by omega) (by omega)
      rw [show 2 * (q / 2) + 1 = q by omega, show 2 * (q / 2) + 0 = q - 1 by omega, Nat.and_zero, Nat.and_self] at e3
      rw [e3, show (q - 1) / 2 = q / 2 by omega, Nat.and_self]
      omega
    · have e3 := bt_and (a := q / 2) (b := 0) (c := q / 2 - 1) (d := 1) (by omega) (by omega)
      rw [show 2 * (q / 2) + 0 = q by omega, show 2 * (q / 2 - 1) + 1 = q - 1 by omega, Nat.zero_and] at e3
      have ih := bt_kern w (q / 2) (by omega) (by omega)
      rw [e3, show (q - 1) / 2 = q / 2 - 1 by omega]
      omega
theorem bt_ct8 : ∀ k q, bt_CT (8 + k) q = bt_CT 8 (q % 256) + bt_CT k (q / 256)
  | 0, q => by
    show bt_CT 8 q = bt_CT 8 (q % 256) + 0
    unfold bt_CT bt_CT bt_CT bt_CT bt_CT bt_CT bt_CT bt_CT bt_CT
    omega
  | k + 1, q => by
    show bt_CT (8 + k + 1) q = _
    rw [bt_ct1 (8 + k) q, bt_ct8 k q, bt_ct1 k (q / 256), Nat.pow_add, ← Nat.div_div_eq_div_mul, Nat.add_assoc]
def bt_aR (q : Nat) : Nat := Nat.sub q (Nat.land (Nat.shiftRight q 1) 1431655765)
def bt_bR (a : Nat) : Nat := Nat.add (Nat.land a 858993459) (Nat.land (Nat.shiftRight a 2) 858993459)
def bt_cR (b : Nat) : Nat := Nat.land (Nat.add b (Nat.shiftRight b 4)) 252645135
def bt_dR (c : Nat) : Nat := Nat.add c (Nat.shiftRight c 8)
def bt_eR (d : Nat) : Nat := Nat.add d (Nat.shiftRight d 16)
def bt_f (h l : Nat) : Bool := Nat.beq (Nat.land (bt_eR (bt_dR (bt_cR (bt_bR (bt_aR (Nat.add (Nat.mul 256 h) l)))))) 63) (Nat.add (bt_CT 8 l) (bt_CT 8 h))
def bt_all (f : Nat → Bool) : Nat → Bool
  | 0 => true
  | n + 1 => f n && bt_all f n
theorem bt_alls {f : Nat → Bool} : ∀ n, bt_all f n = true → ∀ k, k < n → f k = true
  | 0, _, k, h => absurd h (Nat.not_lt_zero k)
  | n + 1, e, k, h => by
    have e2 := (Bool.and_eq_true_iff.mp e)
    by_cases q : k = n
    · subst q; exact e2.1
    · exact bt_alls n e2.2 k (by omega)
set_option maxRecDepth 100000 in
theorem bt_br0 : bt_all (fun h => bt_all (fun l => bt_f (Nat.add 0 h) l) 256) 64 = true := by decide +kernel
set_option maxRecDepth 100000 in
theorem bt_br1 : bt_all (fun h => bt_all (fun l => bt_f (Nat.add 64 h) l) 256) 64 = true := by decide +kernel
set_option maxRecDepth 100000 in
theorem bt_br2 : bt_all (fun h => bt_all (fun l => bt_f (Nat.add 128 h) l) 256) 64 = true := by decide +kernel
set_option maxRecDepth 100000 in
theorem bt_br3 : bt_all (fun h => bt_all (fun l => bt_f (Nat.add 192 h) l) 256) 64 = true := by decide +kernel
theorem bt_bc {q : Nat} (h : q < 65536) : bt_e q &&& 63 = bt_CT 32 q := by
  have key : bt_f (q / 256) (q % 256) = true := by
    have hl : q % 256 < 256 := by omega
    rcases (show q / 256 < 64 ∨ (64 ≤ q / 256 ∧ q / 256 < 128) ∨ (128 ≤ q / 256 ∧ q / 256 < 192) ∨ (192 ≤ q / 256 ∧ q / 256 < 256) by omega) with h1 | h1 | h1 | h1
    · have h2 := bt_alls 256 (bt_alls 64 bt_br0 (q / 256) (by omega)) (q % 256) hl
      rw [show Nat.add 0 (q / 256) = q / 256 from Nat.zero_add _] at h2
      exact h2
    · have h2 := bt_alls 256 (bt_alls 64 bt_br1 (q / 256 - 64) (by omega)) (q % 256) hl
      rw [show Nat.add 64 (q / 256 - 64) = q / 256 from by show 64 + (q / 256 - 64) = _; omega] at h2
      exact h2
    · have h2 := bt_alls 256 (bt_alls 64 bt_br2 (q / 256 - 128) (by omega)) (q % 256) hl
      rw [show Nat.add 128 (q / 256 - 128) = q / 256 from by show 128 + (q / 256 - 128) = _; omega] at h2
      exact h2
    · have h2 := bt_alls 256 (bt_alls 64 bt_br3 (q / 256 - 192) (by omega)) (q % 256) hl
      rw [show Nat.add 192 (q / 256 - 192) = q / 256 from by show 192 + (q / 256 - 192) = _; omega] at h2
      exact h2
  have k2 := Nat.eq_of_beq_eq_true key
  rw [show Nat.add (Nat.mul 256 (q / 256)) (q % 256) = q from by show 256 * (q / 256) + q % 256 = q; omega] at k2
  have e1 : bt_CT 32 q = bt_CT 8 (q % 256) + bt_CT 8 (q / 256) := by rw [show (32 : Nat) = 16 + 16 from rfl, bt_ct16 h 16]; exact bt_ct8 8 q
  rw [e1]
  exact k2
theorem bn_and {a b : Nat} (ha : a < 2 ^ 32) (hb : b < 2 ^ 32) : nI a &&& nI b = nI (a &&& b) := by
  apply Int32.toBitVec_inj.mp
  apply BitVec.eq_of_toNat_eq
  rw [Int32.toBitVec_and, BitVec.toNat_and, pk_tn ha, pk_tn hb, pk_tn (Nat.lt_of_le_of_lt Nat.and_le_left ha)]
theorem bn_next {L z : Nat} (h : bt_SM 32 L z) (hL : L < 65536) : (nI z - nI L) &&& nI L = nI (bt_NX 32 L z) := by
  have hz := bt_smle 32 L z h
  have e := bt_m0 32 L z h (by omega)
  rw [← e]
  apply Int32.toBitVec_inj.mp
  apply BitVec.eq_of_toNat_eq
  rw [Int32.toBitVec_and, BitVec.toNat_and, Int32.toBitVec_sub, BitVec.toNat_sub, pk_tn (n := z) (by omega), pk_tn (n := L) (by omega), pk_tn (Nat.lt_of_le_of_lt Nat.and_le_right (by omega))]
  rw [show 2 ^ 32 - L + z = z + 2 ^ 32 - L by omega]
theorem bn_sub {L v : Nat} (hL : L < 65536) (hv : v < 65536) : (nI v &&& (nI L ^^^ (-1)) = 0) ↔ bt_SM 32 L v := by
  rw [← bt_smI 32 L v (by omega) (by omega)]
  have e : nI L ^^^ (-1) = nI (2 ^ 32 - 1 - L) := by
    apply Int32.toBitVec_inj.mp
    apply BitVec.eq_of_toNat_eq
    rw [pk_tn (by omega), Int32.toBitVec_xor, show (-1 : Int32).toBitVec = BitVec.allOnes 32 from by decide, BitVec.xor_allOnes, BitVec.toNat_not, pk_tn (by omega)]
  rw [e, bn_and (by omega) (by omega)]
  constructor
  · intro h
    have h2 := congrArg (fun x : Int32 => x.toBitVec.toNat) h
    rw [pk_tn (Nat.lt_of_le_of_lt Nat.and_le_left (by omega))] at h2
    exact h2
  · intro h
    rw [h]; rfl
theorem bn_ushr1 {n : Nat} (h : n < 2 ^ 32) : ((nI n).toUInt32 >>> ((1 : Int32).toUInt32 &&& Int32.toUInt32 31)).toInt32 = nI (n >>> 1) := by rw [pk_ushrN h 1 1 (by decide), Nat.shiftRight_eq_div_pow]
theorem bn_ushr2 {n : Nat} (h : n < 2 ^ 32) : ((nI n).toUInt32 >>> ((2 : Int32).toUInt32 &&& Int32.toUInt32 31)).toInt32 = nI (n >>> 2) := by rw [pk_ushrN h 2 2 (by decide), Nat.shiftRight_eq_div_pow]
theorem bn_ushr4 {n : Nat} (h : n < 2 ^ 32) : ((nI n).toUInt32 >>> ((4 : Int32).toUInt32 &&& Int32.toUInt32 31)).toInt32 = nI (n >>> 4) := by rw [pk_ushrN h 4 4 (by decide), Nat.shiftRight_eq_div_pow]
theorem bn_ushr8 {n : Nat} (h : n < 2 ^ 32) : ((nI n).toUInt32 >>> ((8 : Int32).toUInt32 &&& Int32.toUInt32 31)).toInt32 = nI (n >>> 8) := by rw [pk_ushrN h 8 8 (by decide), Nat.shiftRight_eq_div_pow]
theorem bn_ushr16 {n : Nat} (h : n < 2 ^ 32) : ((nI n).toUInt32 >>> ((16 : Int32).toUInt32 &&& Int32.toUInt32 31)).toInt32 = nI (n >>> 16) := by rw [pk_ushrN h 16 16 (by decide), Nat.shiftRight_eq_div_pow]
def bc_a (x : Int32) : Int32 := x - ((x.toUInt32 >>> ((1 : Int32).toUInt32 &&& Int32.toUInt32 31)).toInt32 &&& 1431655765)
def bc_b (x : Int32) : Int32 := (bc_a x &&& 858993459) + (((bc_a x).toUInt32 >>> ((2 : Int32).toUInt32 &&& Int32.toUInt32 31)).toInt32 &&& 858993459)
def bc_c (x : Int32) : Int32 := (bc_b x + ((bc_b x).toUInt32 >>> ((4 : Int32).toUInt32 &&& Int32.toUInt32 31)).toInt32) &&& 252645135
def bc_d (x : Int32) : Int32 := bc_c x + ((bc_c x).toUInt32 >>> ((8 : Int32).toUInt32 &&& Int32.toUInt32 31)).toInt32
def bc_e (x : Int32) : Int32 := bc_d x + ((bc_d x).toUInt32 >>> ((16 : Int32).toUInt32 &&& Int32.toUInt32 31)).toInt32
def bc_f (x : Int32) : Int32 := bc_e x &&& 63
theorem bn_bc {q : Nat} (h : q < 65536) : bc_f (nI q) = nI (bt_CT 32 q) := by
  have s1 : q >>> 1 ≤ q := Nat.shiftRight_le q 1
  have a1 : (q >>> 1 &&& 1431655765) ≤ q := Nat.le_trans Nat.and_le_left s1
  have ea : bc_a (nI q) = nI (bt_a q) := by
    unfold bc_a
    rw [bn_ushr1 (by omega), show (1431655765 : Int32) = nI 1431655765 from rfl, bn_and (by omega) (by decide), pk_sub a1]
    rfl
  have ha : bt_a q < 65536 := by unfold bt_a; omega
  have b1 : bt_a q >>> 2 ≤ bt_a q := Nat.shiftRight_le _ 2
  have eb : bc_b (nI q) = nI (bt_b q) := by
    unfold bc_b
    rw [ea, bn_ushr2 (by omega), show (858993459 : Int32) = nI 858993459 from rfl, bn_and (by omega) (by decide), bn_and (by omega) (by decide), nI_add]
    rfl
  have hb : bt_b q < 131072 := by
    unfold bt_b
    have h1 : bt_a q &&& 858993459 ≤ bt_a q := Nat.and_le_left
    have h2 : bt_a q >>> 2 &&& 858993459 ≤ bt_a q >>> 2 := Nat.and_le_left
    omega
  have c1 : bt_b q >>> 4 ≤ bt_b q := Nat.shiftRight_le _ 4
  have ec : bc_c (nI q) = nI (bt_c q) := by
    unfold bc_c
    rw [eb, bn_ushr4 (by omega), nI_add, show (252645135 : Int32) = nI 252645135 from rfl, bn_and (by omega) (by decide)]
    rfl
  have hc : bt_c q < 262144 := by
    unfold bt_c
    have h1 : (bt_b q + bt_b q >>> 4) &&& 252645135 ≤ bt_b q + bt_b q >>> 4 := Nat.and_le_left
    omega
  have d1 : bt_c q >>> 8 ≤ bt_c q := Nat.shiftRight_le _ 8
  have ed : bc_d (nI q) = nI (bt_d q) := by
    unfold bc_d
    rw [ec, bn_ushr8 (by omega), nI_add]
    rfl
  have hd : bt_d q < 524288 := by unfold bt_d; omega
  have e1 : bt_d q >>> 16 ≤ bt_d q := Nat.shiftRight_le _ 16
  have ee : bc_e (nI q) = nI (bt_e q) := by
    unfold bc_e
    rw [ed, bn_ushr16 (by omega), nI_add]
    rfl
  have he : bt_e q < 2 ^ 32 := by unfold bt_e; omega
  unfold bc_f
  rw [ee, show (63 : Int32) = nI 63 from rfl, bn_and he (by decide), bt_bc h]
theorem bn_bit {z k : Nat} (hz : z < 2 ^ 31) (hk : k < 16) : (nI z >>> (nI k &&& 31)) &&& 1 = nI (z / 2 ^ k % 2) := by
  have hs : ∀ j : Nat, j < 16 → ((nI j &&& 31 : Int32).toBitVec.smod 32).toNat = j := by decide
  rw [pk_shrN hz _ k (hs k hk), pk_andN (Nat.lt_of_le_of_lt (Nat.div_le_self _ _) (by omega)) 1 (by decide)]
theorem bn_kern {q : Nat} (h1 : q ≠ 0) (h : q < 65536) : nI q &&& (nI q - 1) = nI (q &&& (q - 1)) ∧ (q &&& (q - 1)) < 65536 ∧ bt_CT 32 (q &&& (q - 1)) + 1 = bt_CT 32 q := by
  have h2 : (q &&& (q - 1)) ≤ q := Nat.and_le_left
  refine ⟨?_, by omega, bt_kern 32 q (by omega) h1⟩
  obtain ⟨r, rfl⟩ : ∃ r, q = r + 1 := ⟨q - 1, by omega⟩
  rw [nI_pred, show r + 1 - 1 = r from rfl]
  exact bn_and (by omega) (by omega)
theorem bt_ct0 : ∀ w, bt_CT w 0 = 0
  | 0 => rfl
  | w + 1 => by show 0 % 2 + bt_CT w (0 / 2) = 0; rw [show 0 / 2 = 0 from rfl, bt_ct0 w]
theorem bt_ctle : ∀ w q, bt_CT w q ≤ w
  | 0, _ => Nat.le_refl _
  | w + 1, q => by have := bt_ctle w (q / 2); show q % 2 + bt_CT w (q / 2) ≤ w + 1; omega
/-- the teeth of a set, as far as the first k places tell -/
def bt_tf (q : Nat) : Nat → Nat → Nat
  | 0 => fun _ => 0
  | k + 1 => if q / 2 ^ k % 2 = 0 then bt_tf q k else fun j => if j = bt_tm q k then k else bt_tf q k j
theorem bt_tmmono (q : Nat) {k : Nat} : ∀ n, bt_tm q k ≤ bt_tm q (k + n)
  | 0 => Nat.le_refl _
  | n + 1 => by have := bt_tmmono q (k := k) n; show bt_tm q k ≤ bt_tm q (k + n) + _; omega
theorem bt_tfk (q : Nat) {k : Nat} : ∀ n j, j < bt_tm q k → bt_tf q (k + n) j = bt_tf q k j
  | 0, _, _ => rfl
  | n + 1, j, h => by
    have ih := bt_tfk q (k := k) n j h
    have := bt_tmmono q (k := k) n
    show (if q / 2 ^ (k + n) % 2 = 0 then bt_tf q (k + n) else fun j => if j = bt_tm q (k + n) then (k + n) else bt_tf q (k + n) j) j = _
    split
    · exact ih
    · show (if j = bt_tm q (k + n) then (k + n) else bt_tf q (k + n) j) = _
      rw [if_neg (by omega)]; exact ih
theorem bt_tfb (q : Nat) : ∀ k j, k ≤ 16 → bt_tf q k j < 16
  | 0, _, _ => by show 0 < 16; decide
  | k + 1, j, h => by
    show (if q / 2 ^ k % 2 = 0 then bt_tf q k else fun j => if j = bt_tm q k then k else bt_tf q k j) j < 16
    split
    · exact bt_tfb q k j (by omega)
    · show (if j = bt_tm q k then k else bt_tf q k j) < 16
      split
      · omega
      · exact bt_tfb q k j (by omega)
theorem bt_tm16 {q : Nat} (h : q < 65536) : bt_tm q 16 = bt_CT 32 q := by rw [bt_tmct, show (32 : Nat) = 16 + 16 from rfl, bt_ct16 h 16]
/-- a row that holds the teeth told so far -/
def bt_row (q k : Nat) (f : Nat → Int32) : Prop := ∀ j, j < bt_tm q k → f j = nI (bt_tf q k j)
theorem bt_row0 {q : Nat} {f : Nat → Int32} : bt_row q 0 f := fun j h => absurd h (Nat.not_lt_zero j)
theorem bt_rown {q k : Nat} {f : Nat → Int32} (h : bt_row q k f) (e : q / 2 ^ k % 2 = 0) : bt_row q (k + 1) f ∧ bt_tm q (k + 1) = bt_tm q k := by
  have e2 : bt_tm q (k + 1) = bt_tm q k := by show bt_tm q k + _ = _; omega
  refine ⟨fun j hj => ?_, e2⟩
  show f j = nI ((if q / 2 ^ k % 2 = 0 then bt_tf q k else fun j => if j = bt_tm q k then k else bt_tf q k j) j)
  rw [if_pos e]
  exact h j (by omega)
theorem bt_rowy {q k : Nat} {f : Nat → Int32} (h : bt_row q k f) (e : ¬ q / 2 ^ k % 2 = 0) : bt_row q (k + 1) (upd f (bt_tm q k) (nI k)) ∧ bt_tm q (k + 1) = bt_tm q k + 1 := by
  have e2 : bt_tm q (k + 1) = bt_tm q k + 1 := by show bt_tm q k + _ = _; omega
  refine ⟨fun j hj => ?_, e2⟩
  show upd f (bt_tm q k) (nI k) j = nI ((if q / 2 ^ k % 2 = 0 then bt_tf q k else fun j => if j = bt_tm q k then k else bt_tf q k j) j)
  rw [if_neg e]
  show _ = nI (if j = bt_tm q k then k else bt_tf q k j)
  by_cases c : j = bt_tm q k
  · rw [if_pos c, c, pk_us]
  · rw [if_neg c, pk_un c]; exact h j (by omega)
