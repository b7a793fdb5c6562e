/-! sets of teeth as numbers of 32 bits -/
theorem i_nat {x : Int32} (h : 0 ≤ x.toInt) : x.toBitVec.toNat = x.toInt.toNat := by
  have e : x.toInt = if 2 * x.toBitVec.toNat < 2 ^ 32 then (x.toBitVec.toNat : Int) else (x.toBitVec.toNat : Int) - ((2 ^ 32 : Nat) : Int) := BitVec.toInt_eq_toNat_cond _
  have b := x.toBitVec.isLt
  by_cases c : 2 * x.toBitVec.toNat < 2 ^ 32
  · rw [if_pos c] at e
    omega
  · rw [if_neg c] at e
    omega
theorem i_of {x : Int32} {n : Nat} (h : x.toBitVec.toNat = n) (hn : n < 2147483648) : x.toInt = (n : Int) := by
  have e : x.toInt = if 2 * x.toBitVec.toNat < 2 ^ 32 then (x.toBitVec.toNat : Int) else (x.toBitVec.toNat : Int) - ((2 ^ 32 : Nat) : Int) := BitVec.toInt_eq_toNat_cond _
  rw [if_pos (by omega)] at e
  omega
theorem and_i {x y : Int32} (hx : 0 ≤ x.toInt) (hy : 0 ≤ y.toInt) (hb : x.toInt ≤ 65535) : (x &&& y).toInt = ((x.toInt.toNat &&& y.toInt.toNat : Nat) : Int) := by
  have e : (x &&& y).toBitVec.toNat = x.toInt.toNat &&& y.toInt.toNat := by rw [Int32.toBitVec_and, BitVec.toNat_and, i_nat hx, i_nat hy]
  have l : x.toInt.toNat &&& y.toInt.toNat ≤ x.toInt.toNat := Nat.and_le_left
  exact i_of e (by omega)
theorem nx_i {x l : Int32} (hx : 0 ≤ x.toInt) (hl : 0 ≤ l.toInt) (bl : l.toInt ≤ 65535) (h : sb 16 x.toInt.toNat l.toInt.toNat) : ((x - l) &&& l).toInt = (nx 16 l.toInt.toNat x.toInt.toNat : Int) := by
  have e : ((x - l) &&& l).toBitVec.toNat = nx 16 l.toInt.toNat x.toInt.toNat := by
    rw [Int32.toBitVec_and, BitVec.toNat_and, Int32.toBitVec_sub, BitVec.toNat_sub, i_nat hx, i_nat hl]
    exact nx_and (by decide) h (show l.toInt.toNat < 65536 by omega)
  have b := sb.le (sb_nx h)
  exact i_of e (by omega)
theorem sb_i {x l : Int32} (hx : 0 ≤ x.toInt) (bx : x.toInt ≤ 65535) (hl : 0 ≤ l.toInt) (bl : l.toInt ≤ 65535) : (x &&& (l ^^^ -1)).toInt = 0 ↔ sb 16 x.toInt.toNat l.toInt.toNat := by
  have m : ((-1 : Int32)).toBitVec = BitVec.allOnes 32 := by decide
  have e : (x &&& (l ^^^ -1)).toBitVec.toNat = x.toInt.toNat &&& (2 ^ 32 - 1 - l.toInt.toNat) := by
    rw [Int32.toBitVec_and, BitVec.toNat_and, Int32.toBitVec_xor, m, BitVec.xor_allOnes, BitVec.toNat_not, i_nat hx, i_nat hl]
  have k := sb_and (k := 16) (w := 32) (s := x.toInt.toNat) (l := l.toInt.toNat) (by decide) (show x.toInt.toNat < 65536 by omega) (show l.toInt.toNat < 65536 by omega)
  have u : x.toInt.toNat &&& (2 ^ 32 - 1 - l.toInt.toNat) ≤ x.toInt.toNat := Nat.and_le_left
  have t := i_of e (by omega)
  rw [← k, t]
  omega
def bcs (x : Int32) (n : Int32) : Int32 := (x.toUInt32 >>> (n.toUInt32 &&& Int32.toUInt32 31)).toInt32
def bcE (x : Int32) : Int32 :=
  (fun x : Int32 => x &&& 63) ((fun x : Int32 => x + bcs x 16) ((fun x : Int32 => x + bcs x 8) ((fun x : Int32 => (x + bcs x 4) &&& 252645135) ((fun x : Int32 => (x &&& 858993459) + (bcs x 2 &&& 858993459)) ((fun x : Int32 => x - (bcs x 1 &&& 1431655765)) x)))))
theorem bv_n {v : Int32} {n : Nat} (h : v.toInt = (n : Int)) : v.toBitVec.toNat = n := by
  rw [i_nat (by omega), h]
  exact Int.toNat_natCast n
theorem nv_and {v c : Int32} {n m : Nat} (h : v.toInt = (n : Int)) (hc : c.toInt = (m : Int)) (hn : n < 2147483648) : (v &&& c).toInt = ((n &&& m : Nat) : Int) := by
  have e : (v &&& c).toBitVec.toNat = n &&& m := by rw [Int32.toBitVec_and, BitVec.toNat_and, bv_n h, bv_n hc]
  have l : n &&& m ≤ n := Nat.and_le_left
  exact i_of e (by omega)
theorem sr_le (n k : Nat) : n >>> k ≤ n := by
  rw [Nat.shiftRight_eq_div_pow]
  exact Nat.div_le_self _ _
theorem nv_1 {v : Int32} {n : Nat} (h : v.toInt = (n : Int)) (hn : n < 2147483648) : (bcs v 1).toInt = ((n >>> 1 : Nat) : Int) := by
  have e : (bcs v 1).toBitVec.toNat = v.toBitVec.toNat >>> 1 := rfl
  rw [bv_n h] at e
  exact i_of e (Nat.lt_of_le_of_lt (sr_le n 1) hn)
theorem nv_2 {v : Int32} {n : Nat} (h : v.toInt = (n : Int)) (hn : n < 2147483648) : (bcs v 2).toInt = ((n >>> 2 : Nat) : Int) := by
  have e : (bcs v 2).toBitVec.toNat = v.toBitVec.toNat >>> 2 := rfl
  rw [bv_n h] at e
  exact i_of e (Nat.lt_of_le_of_lt (sr_le n 2) hn)
theorem nv_4 {v : Int32} {n : Nat} (h : v.toInt = (n : Int)) (hn : n < 2147483648) : (bcs v 4).toInt = ((n >>> 4 : Nat) : Int) := by
  have e : (bcs v 4).toBitVec.toNat = v.toBitVec.toNat >>> 4 := rfl
  rw [bv_n h] at e
  exact i_of e (Nat.lt_of_le_of_lt (sr_le n 4) hn)
theorem nv_8 {v : Int32} {n : Nat} (h : v.toInt = (n : Int)) (hn : n < 2147483648) : (bcs v 8).toInt = ((n >>> 8 : Nat) : Int) := by
  have e : (bcs v 8).toBitVec.toNat = v.toBitVec.toNat >>> 8 := rfl
  rw [bv_n h] at e
  exact i_of e (Nat.lt_of_le_of_lt (sr_le n 8) hn)
theorem nv_16 {v : Int32} {n : Nat} (h : v.toInt = (n : Int)) (hn : n < 2147483648) : (bcs v 16).toInt = ((n >>> 16 : Nat) : Int) := by
  have e : (bcs v 16).toBitVec.toNat = v.toBitVec.toNat >>> 16 := rfl
  rw [bv_n h] at e
  exact i_of e (Nat.lt_of_le_of_lt (sr_le n 16) hn)
def bn1 (x : Nat) : Nat := x - ((x >>> 1) &&& 1431655765)
def bn2 (x : Nat) : Nat := (x &&& 858993459) + ((x >>> 2) &&& 858993459)
def bn3 (x : Nat) : Nat := (x + (x >>> 4)) &&& 252645135
def bn4 (x : Nat) : Nat := x + (x >>> 8)
def bn5 (x : Nat) : Nat := x + (x >>> 16)
def bn (x : Nat) : Nat := bn5 (bn4 (bn3 (bn2 (bn1 x)))) &&& 63
theorem bcE_n {x : Int32} {n : Nat} (h : x.toInt = (n : Int)) (hn : n ≤ 65535) : (bcE x).toInt = ((bn n : Nat) : Int) := by
  have a1 := nv_and (nv_1 h (by omega)) (show (1431655765 : Int32).toInt = ((1431655765 : Nat) : Int) by decide) (Nat.lt_of_le_of_lt (sr_le n 1) (by omega))
  have l1 : (n >>> 1) &&& 1431655765 ≤ n := Nat.le_trans Nat.and_le_left (sr_le n 1)
  have h1 : (x - (bcs x 1 &&& 1431655765)).toInt = ((bn1 n : Nat) : Int) := by
    rw [ti_sub h a1 (by omega) (by omega)]
    unfold bn1
    omega
  have m1 : bn1 n ≤ 65535 := by unfold bn1; omega
  have b2 := nv_and h1 (show (858993459 : Int32).toInt = ((858993459 : Nat) : Int) by decide) (by omega)
  have c2 := nv_and (nv_2 h1 (by omega)) (show (858993459 : Int32).toInt = ((858993459 : Nat) : Int) by decide) (Nat.lt_of_le_of_lt (sr_le (bn1 n) 2) (by omega))
  have l2 : bn1 n &&& 858993459 ≤ bn1 n := Nat.and_le_left
  have l3 : (bn1 n >>> 2) &&& 858993459 ≤ bn1 n := Nat.le_trans Nat.and_le_left (sr_le _ 2)
  have h2 := ti_add b2 c2 (by omega) (by omega)
  have e2 : (((bn1 n &&& 858993459 : Nat) : Int) + (((bn1 n >>> 2) &&& 858993459 : Nat) : Int)) = ((bn2 (bn1 n) : Nat) : Int) := by unfold bn2; omega
  rw [e2] at h2
  have m2 : bn2 (bn1 n) ≤ 131070 := by unfold bn2; omega
  have l4 := sr_le (bn2 (bn1 n)) 4
  have s3 := ti_add h2 (nv_4 h2 (by omega)) (by omega) (by omega)
  have e3 : (((bn2 (bn1 n) : Nat) : Int) + ((bn2 (bn1 n) >>> 4 : Nat) : Int)) = ((bn2 (bn1 n) + bn2 (bn1 n) >>> 4 : Nat) : Int) := by omega
  rw [e3] at s3
  have h3 := nv_and s3 (show (252645135 : Int32).toInt = ((252645135 : Nat) : Int) by decide) (by omega)
  have m3 : bn3 (bn2 (bn1 n)) ≤ 262140 := Nat.le_trans Nat.and_le_left (by omega)
  have h3' : _ = ((bn3 (bn2 (bn1 n)) : Nat) : Int) := h3
  have l5 := sr_le (bn3 (bn2 (bn1 n))) 8
  have h4 := ti_add h3' (nv_8 h3' (by omega)) (by omega) (by omega)
  have e4 : (((bn3 (bn2 (bn1 n)) : Nat) : Int) + ((bn3 (bn2 (bn1 n)) >>> 8 : Nat) : Int)) = ((bn4 (bn3 (bn2 (bn1 n))) : Nat) : Int) := by unfold bn4; omega
  rw [e4] at h4
  have m4 : bn4 (bn3 (bn2 (bn1 n))) ≤ 524280 := by unfold bn4; omega
  have l6 := sr_le (bn4 (bn3 (bn2 (bn1 n)))) 16
  have h5 := ti_add h4 (nv_16 h4 (by omega)) (by omega) (by omega)
  have e5 : (((bn4 (bn3 (bn2 (bn1 n))) : Nat) : Int) + ((bn4 (bn3 (bn2 (bn1 n))) >>> 16 : Nat) : Int)) = ((bn5 (bn4 (bn3 (bn2 (bn1 n)))) : Nat) : Int) := by unfold bn5; omega
  rw [e5] at h5
  have m5 : bn5 (bn4 (bn3 (bn2 (bn1 n)))) ≤ 1048560 := by unfold bn5; omega
  exact nv_and h5 (show (63 : Int32).toInt = ((63 : Nat) : Int) by decide) (by omega)
set_option maxRecDepth 100000 in
theorem bc_0 : ∀ a : Nat, a < 16 → ∀ b : Nat, b < 256 → bn (0 + (256 * a + b)) = bt_CT 16 (0 + (256 * a + b)) := by decide +kernel
set_option maxRecDepth 100000 in
theorem bc_1 : ∀ a : Nat, a < 16 → ∀ b : Nat, b < 256 → bn (4096 + (256 * a + b)) = bt_CT 16 (4096 + (256 * a + b)) := by decide +kernel
set_option maxRecDepth 100000 in
theorem bc_2 : ∀ a : Nat, a < 16 → ∀ b : Nat, b < 256 → bn (8192 + (256 * a + b)) = bt_CT 16 (8192 + (256 * a + b)) := by decide +kernel
set_option maxRecDepth 100000 in
theorem bc_3 : ∀ a : Nat, a < 16 → ∀ b : Nat, b < 256 → bn (12288 + (256 * a + b)) = bt_CT 16 (12288 + (256 * a + b)) := by decide +kernel
set_option maxRecDepth 100000 in
theorem bc_4 : ∀ a : Nat, a < 16 → ∀ b : Nat, b < 256 → bn (16384 + (256 * a + b)) = bt_CT 16 (16384 + (256 * a + b)) := by decide +kernel
set_option maxRecDepth 100000 in
theorem bc_5 : ∀ a : Nat, a < 16 → ∀ b : Nat, b < 256 → bn (20480 + (256 * a + b)) = bt_CT 16 (20480 + (256 * a + b)) := by decide +kernel
set_option maxRecDepth 100000 in
theorem bc_6 : ∀ a : Nat, a < 16 → ∀ b : Nat, b < 256 → bn (24576 + (256 * a + b)) = bt_CT 16 (24576 + (256 * a + b)) := by decide +kernel
set_option maxRecDepth 100000 in
theorem bc_7 : ∀ a : Nat, a < 16 → ∀ b : Nat, b < 256 → bn (28672 + (256 * a + b)) = bt_CT 16 (28672 + (256 * a + b)) := by decide +kernel
set_option maxRecDepth 100000 in
theorem bc_8 : ∀ a : Nat, a < 16 → ∀ b : Nat, b < 256 → bn (32768 + (256 * a + b)) = bt_CT 16 (32768 + (256 * a + b)) := by decide +kernel
set_option maxRecDepth 100000 in
theorem bc_9 : ∀ a : Nat, a < 16 → ∀ b : Nat, b < 256 → bn (36864 + (256 * a + b)) = bt_CT 16 (36864 + (256 * a + b)) := by decide +kernel
set_option maxRecDepth 100000 in
theorem bc_10 : ∀ a : Nat, a < 16 → ∀ b : Nat, b < 256 → bn (40960 + (256 * a + b)) = bt_CT 16 (40960 + (256 * a + b)) := by decide +kernel
set_option maxRecDepth 100000 in
theorem bc_11 : ∀ a : Nat, a < 16 → ∀ b : Nat, b < 256 → bn (45056 + (256 * a + b)) = bt_CT 16 (45056 + (256 * a + b)) := by decide +kernel
set_option maxRecDepth 100000 in
theorem bc_12 : ∀ a : Nat, a < 16 → ∀ b : Nat, b < 256 → bn (49152 + (256 * a + b)) = bt_CT 16 (49152 + (256 * a + b)) := by decide +kernel
set_option maxRecDepth 100000 in
theorem bc_13 : ∀ a : Nat, a < 16 → ∀ b : Nat, b < 256 → bn (53248 + (256 * a + b)) = bt_CT 16 (53248 + (256 * a + b)) := by decide +kernel
set_option maxRecDepth 100000 in
theorem bc_14 : ∀ a : Nat, a < 16 → ∀ b : Nat, b < 256 → bn (57344 + (256 * a + b)) = bt_CT 16 (57344 + (256 * a + b)) := by decide +kernel
set_option maxRecDepth 100000 in
theorem bc_15 : ∀ a : Nat, a < 16 → ∀ b : Nat, b < 256 → bn (61440 + (256 * a + b)) = bt_CT 16 (61440 + (256 * a + b)) := by decide +kernel
theorem bc_ok {x : Int32} (h0 : 0 ≤ x.toInt) (h1 : x.toInt ≤ 65535) : (bcE x).toInt = (bt_CT 16 x.toInt.toNat : Int) := by
  have e := bcE_n (x := x) (n := x.toInt.toNat) (by omega) (by omega)
  have go : bn x.toInt.toNat = bt_CT 16 x.toInt.toNat := by
    rcases (show x.toInt.toNat / 4096 = 0 ∨ x.toInt.toNat / 4096 = 1 ∨ x.toInt.toNat / 4096 = 2 ∨ x.toInt.toNat / 4096 = 3 ∨ x.toInt.toNat / 4096 = 4 ∨ x.toInt.toNat / 4096 = 5 ∨ x.toInt.toNat / 4096 = 6 ∨ x.toInt.toNat / 4096 = 7 ∨ x.toInt.toNat / 4096 = 8 ∨ x.toInt.toNat / 4096 = 9 ∨ x.toInt.toNat / 4096 = 10 ∨ x.toInt.toNat / 4096 = 11 ∨ x.toInt.toNat / 4096 = 12 ∨ x.toInt.toNat / 4096 = 13 ∨ x.toInt.toNat / 4096 = 14 ∨ x.toInt.toNat / 4096 = 15 by omega) with h | h | h | h | h | h | h | h | h | h | h | h | h | h | h | h
    · have k := bc_0 (x.toInt.toNat % 4096 / 256) (by omega) (x.toInt.toNat % 256) (by omega)
      rw [show 0 + (256 * (x.toInt.toNat % 4096 / 256) + x.toInt.toNat % 256) = x.toInt.toNat by omega] at k
      exact k
    · have k := bc_1 (x.toInt.toNat % 4096 / 256) (by omega) (x.toInt.toNat % 256) (by omega)
      rw [show 4096 + (256 * (x.toInt.toNat % 4096 / 256) + x.toInt.toNat % 256) = x.toInt.toNat by omega] at k
      exact k
    · have k := bc_2 (x.toInt.toNat % 4096 / 256) (by omega) (x.toInt.toNat % 256) (by omega)
      rw [show 8192 + (256 * (x.toInt.toNat % 4096 / 256) + x.toInt.toNat % 256) = x.toInt.toNat by omega] at k
      exact k
    · have k := bc_3 (x.toInt.toNat % 4096 / 256) (by omega) (x.toInt.toNat % 256) (by omega)
      rw [show 12288 + (256 * (x.toInt.toNat % 4096 / 256) + x.toInt.toNat % 256) = x.toInt.toNat by omega] at k
      exact k
    · have k := bc_4 (x.toInt.toNat % 4096 / 256) (by omega) (x.toInt.toNat % 256) (by omega)
      rw [show 16384 + (256 * (x.toInt.toNat % 4096 / 256) + x.toInt.toNat % 256) = x.toInt.toNat by omega] at k
      exact k
    · have k := bc_5 (x.toInt.toNat % 4096 / 256) (by omega) (x.toInt.toNat % 256) (by omega)
      rw [show 20480 + (256 * (x.toInt.toNat % 4096 / 256) + x.toInt.toNat % 256) = x.toInt.toNat by omega] at k
      exact k
    · have k := bc_6 (x.toInt.toNat % 4096 / 256) (by omega) (x.toInt.toNat % 256) (by omega)
      rw [show 24576 + (256 * (x.toInt.toNat % 4096 / 256) + x.toInt.toNat % 256) = x.toInt.toNat by omega] at k
      exact k
    · have k := bc_7 (x.toInt.toNat % 4096 / 256) (by omega) (x.toInt.toNat % 256) (by omega)
      rw [show 28672 + (256 * (x.toInt.toNat % 4096 / 256) + x.toInt.toNat % 256) = x.toInt.toNat by omega] at k
      exact k
    · have k := bc_8 (x.toInt.toNat % 4096 / 256) (by omega) (x.toInt.toNat % 256) (by omega)
      rw [show 32768 + (256 * (x.toInt.toNat % 4096 / 256) + x.toInt.toNat % 256) = x.toInt.toNat by omega] at k
      exact k
    · have k := bc_9 (x.toInt.toNat % 4096 / 256) (by omega) (x.toInt.toNat % 256) (by omega)
      rw [show 36864 + (256 * (x.toInt.toNat % 4096 / 256) + x.toInt.toNat % 256) = x.toInt.toNat by omega] at k
      exact k
    · have k := bc_10 (x.toInt.toNat % 4096 / 256) (by omega) (x.toInt.toNat % 256) (by omega)
      rw [show 40960 + (256 * (x.toInt.toNat % 4096 / 256) + x.toInt.toNat % 256) = x.toInt.toNat by omega] at k
      exact k
    · have k := bc_11 (x.toInt.toNat % 4096 / 256) (by omega) (x.toInt.toNat % 256) (by omega)
      rw [show 45056 + (256 * (x.toInt.toNat % 4096 / 256) + x.toInt.toNat % 256) = x.toInt.toNat by omega] at k
      exact k
    · have k := bc_12 (x.toInt.toNat % 4096 / 256) (by omega) (x.toInt.toNat % 256) (by omega)
      rw [show 49152 + (256 * (x.toInt.toNat % 4096 / 256) + x.toInt.toNat % 256) = x.toInt.toNat by omega] at k
      exact k
    · have k := bc_13 (x.toInt.toNat % 4096 / 256) (by omega) (x.toInt.toNat % 256) (by omega)
      rw [show 53248 + (256 * (x.toInt.toNat % 4096 / 256) + x.toInt.toNat % 256) = x.toInt.toNat by omega] at k
      exact k
    · have k := bc_14 (x.toInt.toNat % 4096 / 256) (by omega) (x.toInt.toNat % 256) (by omega)
      rw [show 57344 + (256 * (x.toInt.toNat % 4096 / 256) + x.toInt.toNat % 256) = x.toInt.toNat by omega] at k
      exact k
    · have k := bc_15 (x.toInt.toNat % 4096 / 256) (by omega) (x.toInt.toNat % 256) (by omega)
      rw [show 61440 + (256 * (x.toInt.toNat % 4096 / 256) + x.toInt.toNat % 256) = x.toInt.toNat by omega] at k
      exact k
  rw [e, go]
