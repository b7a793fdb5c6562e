section GV
variable {p : Program} {l : Launch} {e : Env} {R : Room} {s : State} {m : MethodId} {args : Array Value} {below : List Frame} {meth : Method} {c : Code} {cc : ByteArray} {own : String} {nL : Nat} {Ts : List Cond} {D : va_G} {A : Nat → Prop} {Q : State → Prop} {k n : Nat} {ws ws' : va_W} {tys : List (ClassId × FieldType)} {lv lv' : List (Nat × Value)} {pc : Nat} {st : List Value}
theorem ti_bm {a : Int} (h1 : -2147483648 ≤ a) (h2 : a ≤ 2147483647) : a.bmod (2^32) = a := by
  rw [Int.bmod_def]
  split <;> omega
theorem ti_bm64 {a : Int} (h1 : -9223372036854775808 ≤ a) (h2 : a ≤ 9223372036854775807) : a.bmod (2^64) = a := by
  rw [Int.bmod_def]
  split <;> omega
theorem ti_rng (x : Int32) : -2147483648 ≤ x.toInt ∧ x.toInt ≤ 2147483647 := ⟨Int32.le_toInt x, by have := Int32.toInt_lt x; omega⟩
theorem ti_add {x y : Int32} {a b : Int} (hx : x.toInt = a) (hy : y.toInt = b) (h1 : -2147483648 ≤ a + b) (h2 : a + b ≤ 2147483647) : (x + y).toInt = a + b := by rw [Int32.toInt_add, hx, hy]; exact ti_bm h1 h2
theorem ti_sub {x y : Int32} {a b : Int} (hx : x.toInt = a) (hy : y.toInt = b) (h1 : -2147483648 ≤ a - b) (h2 : a - b ≤ 2147483647) : (x - y).toInt = a - b := by rw [Int32.toInt_sub, hx, hy]; exact ti_bm h1 h2
theorem ti_mul {x y : Int32} {a b : Int} (hx : x.toInt = a) (hy : y.toInt = b) (h1 : -2147483648 ≤ a * b) (h2 : a * b ≤ 2147483647) : (x * y).toInt = a * b := by rw [Int32.toInt_mul, hx, hy]; exact ti_bm h1 h2
theorem ti_mulb {x y : Int32} {a b A B : Int} (hx : x.toInt = a) (hy : y.toInt = b) (h1 : 0 ≤ a) (h2 : a ≤ A) (h3 : 0 ≤ b) (h4 : b ≤ B) (h5 : A * B ≤ 2147483647) : 0 ≤ (x * y).toInt ∧ (x * y).toInt ≤ A * B := by
  have h6 : 0 ≤ a * b := Int.mul_nonneg h1 h3
  have h7 : a * b ≤ A * B := Int.mul_le_mul h2 h4 h3 (by omega)
  rw [ti_mul hx hy (by omega) (by omega)]
  exact ⟨h6, h7⟩
theorem ti_neg {x : Int32} {a : Int} (hx : x.toInt = a) (h1 : -2147483648 < a) : (-x).toInt = -a := by
  have h := Int32.toInt_lt x
  rw [Int32.toInt_neg, hx]; exact ti_bm (by omega) (by omega)
theorem ti_div {x y : Int32} {a b : Int} (hx : x.toInt = a) (hy : y.toInt = b) (h1 : 0 ≤ a) (h2 : 0 < b) : (x / y).toInt = a / b := by
  have h3 := Int32.toInt_lt x
  have h4 : a.tdiv b = a / b := Int.tdiv_eq_ediv_of_nonneg h1
  have h5 : a / b ≤ a := Int.ediv_le_self b h1
  have h6 : 0 ≤ a / b := Int.ediv_nonneg h1 (by omega)
  rw [Int32.toInt_div, hx, hy, h4]; exact ti_bm (by omega) (by omega)
theorem ti_rem {x y : Int32} {a b : Int} (hx : x.toInt = a) (hy : y.toInt = b) (h1 : 0 ≤ a) (h2 : 0 < b) : (x - x / y * y).toInt = a % b := by
  have h3 := Int32.toInt_lt x
  have e1 := ti_div hx hy h1 h2
  have e2 : a % b = a - a / b * b := by rw [Int.mul_comm]; exact Int.emod_def a b
  have h5 : a / b * b ≤ a := Int.ediv_mul_le a (by omega)
  have h6 : 0 ≤ a / b * b := Int.mul_nonneg (Int.ediv_nonneg h1 (by omega)) (by omega)
  have e3 := ti_mul e1 hy (by omega) (by omega)
  have h7 : 0 ≤ a % b := Int.emod_nonneg a (by omega)
  have h8 : a % b < b := Int.emod_lt_of_pos a h2
  rw [ti_sub hx e3 (by omega) (by omega)]
  omega
theorem ti_remb {x y : Int32} {a b : Int} (hx : x.toInt = a) (hy : y.toInt = b) (h1 : 0 ≤ a) (h2 : 0 < b) : 0 ≤ (x - x / y * y).toInt ∧ (x - x / y * y).toInt < b ∧ (x - x / y * y).toInt ≤ a := by
  have e := ti_rem hx hy h1 h2
  have h7 : 0 ≤ a % b := Int.emod_nonneg a (by omega)
  have h8 : a % b < b := Int.emod_lt_of_pos a h2
  have h9 : a % b ≤ a := by
    rw [Int.emod_def]
    have : 0 ≤ b * (a / b) := Int.mul_nonneg (by omega) (Int.ediv_nonneg h1 (by omega))
    omega
  omega
theorem ti_ne0 {y : Int32} {b : Int} (hy : y.toInt = b) (h : b ≠ 0) : ¬ y = 0 := fun e => h (by rw [← hy, e]; rfl)
theorem ti_andm {x y : Int32} {b : Int} (hy : y.toInt = b) (h : 0 ≤ b) : 0 ≤ (x &&& y).toInt ∧ (x &&& y).toInt ≤ b := by
  have hy2 : 0 ≤ y.toInt := by omega
  have e0 : (x &&& y).toInt = (x.toBitVec &&& y.toBitVec).toInt := rfl
  have e1 : y.toInt = y.toBitVec.toInt := rfl
  have h1 : (y.toBitVec.toNat : Int) = y.toInt := by
    rw [e1, BitVec.toInt_eq_toNat_cond]
    split
    · rfl
    · rename_i h9
      rw [e1, BitVec.toInt_eq_toNat_cond, if_neg h9] at hy2
      have := y.toBitVec.isLt
      omega
  have h2 : (x.toBitVec &&& y.toBitVec).toNat ≤ y.toBitVec.toNat := by
    rw [BitVec.toNat_and]
    exact Nat.and_le_right
  have h3 : y.toBitVec.toNat < 2147483648 := by have := Int32.toInt_lt y; omega
  have h4 : (x.toBitVec &&& y.toBitVec).toInt = ((x.toBitVec &&& y.toBitVec).toNat : Int) := by
    rw [BitVec.toInt_eq_toNat_cond, if_pos (by omega)]
  omega
theorem ti_eq {x y : Int32} {a b : Int} (hx : x.toInt = a) (hy : y.toInt = b) : x = y ↔ a = b := by rw [← hx, ← hy]; exact Int32.toInt_inj.symm
theorem ti_lt {x y : Int32} {a b : Int} (hx : x.toInt = a) (hy : y.toInt = b) : x < y ↔ a < b := by rw [← hx, ← hy]; exact Int32.lt_iff_toInt_lt
theorem ti_le {x y : Int32} {a b : Int} (hx : x.toInt = a) (hy : y.toInt = b) : x ≤ y ↔ a ≤ b := by rw [← hx, ← hy]; exact Int32.le_iff_toInt_le
theorem ti_max {x y : Int32} {a b : Int} (hx : x.toInt = a) (hy : y.toInt = b) : (if x < y then y else x).toInt = max a b := by
  by_cases h : x < y
  · rw [if_pos h, hy]; have := (ti_lt hx hy).mp h; omega
  · rw [if_neg h, hx]; have : ¬ a < b := fun q => h ((ti_lt hx hy).mpr q); omega
theorem ti_min {x y : Int32} {a b : Int} (hx : x.toInt = a) (hy : y.toInt = b) : (if y < x then y else x).toInt = min a b := by
  by_cases h : y < x
  · rw [if_pos h, hy]; have := (ti_lt hy hx).mp h; omega
  · rw [if_neg h, hx]; have : ¬ b < a := fun q => h ((ti_lt hy hx).mpr q); omega
theorem ti_in {i : Int32} {a : Int} {z : Nat} (hi : i.toInt = a) (h0 : 0 ≤ a) (h1 : a < z) : vp_in i z := by
  unfold vp_in
  have : i.toNatClampNeg = a.toNat := by rw [← hi]; rfl
  intro h
  rcases h with h | h
  · have := (ti_lt hi (show (0 : Int32).toInt = 0 from rfl)).mp h
    omega
  · omega
theorem ti_nar {v : Int32} {a : Int} (hv : v.toInt = a) (h0 : 0 ≤ a) (h1 : a ≤ 1) : narrow .boolean (.int v) = .int v := by
  have : v = 0 ∨ v = 1 := by
    rcases (show a = 0 ∨ a = 1 by omega) with h | h
    · exact Or.inl ((ti_eq hv (show (0 : Int32).toInt = 0 from rfl)).mpr h)
    · exact Or.inr ((ti_eq hv (show (1 : Int32).toInt = 1 from rfl)).mpr h)
  rcases this with rfl | rfl <;> rfl
theorem ti_i2l {x : Int32} {a : Int} (hx : x.toInt = a) : x.toInt64.toInt = a := by rw [Int32.toInt_toInt64]; exact hx
theorem ti_addL {x y : Int64} {a b : Int} (hx : x.toInt = a) (hy : y.toInt = b) (h1 : -9223372036854775808 ≤ a + b) (h2 : a + b ≤ 9223372036854775807) : (x + y).toInt = a + b := by rw [Int64.toInt_add, hx, hy]; exact ti_bm64 h1 h2
theorem ti_subL {x y : Int64} {a b : Int} (hx : x.toInt = a) (hy : y.toInt = b) (h1 : -9223372036854775808 ≤ a - b) (h2 : a - b ≤ 9223372036854775807) : (x - y).toInt = a - b := by rw [Int64.toInt_sub, hx, hy]; exact ti_bm64 h1 h2
theorem v_hav {x : Int32} (kk : ∀ y : Int32, gG p l e R s m args below meth c D A nL Q k n ws tys lv pc (.int y :: st)) : gG p l e R s m args below meth c D A nL Q k n ws tys lv pc (.int x :: st) := kk x
theorem v_gen {x : Int32} (P : Int32 → Prop) (h : P x) (kk : ∀ y : Int32, P y → gG p l e R s m args below meth c D A nL Q k n ws tys lv pc (.int y :: st)) : gG p l e R s m args below meth c D A nL Q k n ws tys lv pc (.int x :: st) := kk x h
theorem v_genL {x : Int64} (P : Int64 → Prop) (h : P x) (kk : ∀ y : Int64, P y → gG p l e R s m args below meth c D A nL Q k n ws tys lv pc (.long y :: st)) : gG p l e R s m args below meth c D A nL Q k n ws tys lv pc (.long x :: st) := kk x h
theorem v_iinc (F : gF p s m args meth c cc own nL Ts A) {i j : Nat} {z : Int} {x : Int32} (lv2 : Int32 → List (Nat × Value)) (P : Int32 → Prop) (hd : decode cc pc = .ok (.iinc i z, 3)) (hj : lv[j]? = some (i, .int x)) (hP : P (x + Int32.ofInt z)) (hn : i < nL) (h : ∀ v : Int32, (i, Value.int v) :: lv.filter (fun q => !(q.1 == i) && !(q.1 + 1 == i && q.2.category == 2)) = lv2 v) (kk : ∀ v : Int32, P v → gG p l e R s m args below meth c D A nL Q k n ws tys (lv2 v) (pc + 3) st) : gG p l e R s m args below meth c D A nL Q k n ws tys lv pc st := g_iinc F (j := j) (x + Int32.ofInt z) _ hd hj rfl hn (h _) (kk _ hP)
theorem v_if_eq (F : gF p s m args meth c cc own nL Ts A) {x : Int32} {off : Int} (tgt : Nat) (hd : decode cc pc = .ok (.ifCond .eq off, 3)) (ht : (pc : Int) + off = (tgt : Int)) (a : Int) (hx : x.toInt = a) (kt : a = 0 → gG p l e R s m args below meth c D A nL Q k n ws tys lv tgt st) (kf : a ≠ 0 → gG p l e R s m args below meth c D A nL Q k n ws tys lv (pc + 3) st) : gG p l e R s m args below meth c D A nL Q k n ws tys lv pc (.int x :: st) := g_if_eq F tgt hd ht (fun h => kt ((ti_eq hx (show (0 : Int32).toInt = 0 from rfl)).mp h)) (fun h => kf (fun q => h ((ti_eq hx (show (0 : Int32).toInt = 0 from rfl)).mpr q)))
theorem v_icmp_eq (F : gF p s m args meth c cc own nL Ts A) {x y : Int32} {off : Int} (tgt : Nat) (hd : decode cc pc = .ok (.if_icmp .eq off, 3)) (ht : (pc : Int) + off = (tgt : Int)) (a b : Int) (hx : x.toInt = a) (hy : y.toInt = b) (kt : a = b → gG p l e R s m args below meth c D A nL Q k n ws tys lv tgt st) (kf : a ≠ b → gG p l e R s m args below meth c D A nL Q k n ws tys lv (pc + 3) st) : gG p l e R s m args below meth c D A nL Q k n ws tys lv pc (.int y :: .int x :: st) := g_icmp_eq F tgt hd ht (fun h => kt ((ti_eq hx hy).mp h)) (fun h => kf (fun q => h ((ti_eq hx hy).mpr q)))
theorem v_if_ne (F : gF p s m args meth c cc own nL Ts A) {x : Int32} {off : Int} (tgt : Nat) (hd : decode cc pc = .ok (.ifCond .ne off, 3)) (ht : (pc : Int) + off = (tgt : Int)) (a : Int) (hx : x.toInt = a) (kt : a ≠ 0 → gG p l e R s m args below meth c D A nL Q k n ws tys lv tgt st) (kf : a = 0 → gG p l e R s m args below meth c D A nL Q k n ws tys lv (pc + 3) st) : gG p l e R s m args below meth c D A nL Q k n ws tys lv pc (.int x :: st) := g_if_ne F tgt hd ht (fun h => kt (fun q => h ((ti_eq hx (show (0 : Int32).toInt = 0 from rfl)).mpr q))) (fun h => kf ((ti_eq hx (show (0 : Int32).toInt = 0 from rfl)).mp h))
theorem v_icmp_ne (F : gF p s m args meth c cc own nL Ts A) {x y : Int32} {off : Int} (tgt : Nat) (hd : decode cc pc = .ok (.if_icmp .ne off, 3)) (ht : (pc : Int) + off = (tgt : Int)) (a b : Int) (hx : x.toInt = a) (hy : y.toInt = b) (kt : a ≠ b → gG p l e R s m args below meth c D A nL Q k n ws tys lv tgt st) (kf : a = b → gG p l e R s m args below meth c D A nL Q k n ws tys lv (pc + 3) st) : gG p l e R s m args below meth c D A nL Q k n ws tys lv pc (.int y :: .int x :: st) := g_icmp_ne F tgt hd ht (fun h => kt (fun q => h ((ti_eq hx hy).mpr q))) (fun h => kf ((ti_eq hx hy).mp h))
theorem v_if_lt (F : gF p s m args meth c cc own nL Ts A) {x : Int32} {off : Int} (tgt : Nat) (hd : decode cc pc = .ok (.ifCond .lt off, 3)) (ht : (pc : Int) + off = (tgt : Int)) (a : Int) (hx : x.toInt = a) (kt : a < 0 → gG p l e R s m args below meth c D A nL Q k n ws tys lv tgt st) (kf : 0 ≤ a → gG p l e R s m args below meth c D A nL Q k n ws tys lv (pc + 3) st) : gG p l e R s m args below meth c D A nL Q k n ws tys lv pc (.int x :: st) := g_if_lt F tgt hd ht (fun h => kt ((ti_lt hx (show (0 : Int32).toInt = 0 from rfl)).mp h)) (fun h => kf (Int.not_lt.mp (fun q => h ((ti_lt hx (show (0 : Int32).toInt = 0 from rfl)).mpr q))))
theorem v_icmp_lt (F : gF p s m args meth c cc own nL Ts A) {x y : Int32} {off : Int} (tgt : Nat) (hd : decode cc pc = .ok (.if_icmp .lt off, 3)) (ht : (pc : Int) + off = (tgt : Int)) (a b : Int) (hx : x.toInt = a) (hy : y.toInt = b) (kt : a < b → gG p l e R s m args below meth c D A nL Q k n ws tys lv tgt st) (kf : b ≤ a → gG p l e R s m args below meth c D A nL Q k n ws tys lv (pc + 3) st) : gG p l e R s m args below meth c D A nL Q k n ws tys lv pc (.int y :: .int x :: st) := g_icmp_lt F tgt hd ht (fun h => kt ((ti_lt hx hy).mp h)) (fun h => kf (Int.not_lt.mp (fun q => h ((ti_lt hx hy).mpr q))))
theorem v_if_ge (F : gF p s m args meth c cc own nL Ts A) {x : Int32} {off : Int} (tgt : Nat) (hd : decode cc pc = .ok (.ifCond .ge off, 3)) (ht : (pc : Int) + off = (tgt : Int)) (a : Int) (hx : x.toInt = a) (kt : 0 ≤ a → gG p l e R s m args below meth c D A nL Q k n ws tys lv tgt st) (kf : a < 0 → gG p l e R s m args below meth c D A nL Q k n ws tys lv (pc + 3) st) : gG p l e R s m args below meth c D A nL Q k n ws tys lv pc (.int x :: st) := g_if_ge F tgt hd ht (fun h => kt ((ti_le (show (0 : Int32).toInt = 0 from rfl) hx).mp h)) (fun h => kf (Int.not_le.mp (fun q => h ((ti_le (show (0 : Int32).toInt = 0 from rfl) hx).mpr q))))
theorem v_icmp_ge (F : gF p s m args meth c cc own nL Ts A) {x y : Int32} {off : Int} (tgt : Nat) (hd : decode cc pc = .ok (.if_icmp .ge off, 3)) (ht : (pc : Int) + off = (tgt : Int)) (a b : Int) (hx : x.toInt = a) (hy : y.toInt = b) (kt : b ≤ a → gG p l e R s m args below meth c D A nL Q k n ws tys lv tgt st) (kf : a < b → gG p l e R s m args below meth c D A nL Q k n ws tys lv (pc + 3) st) : gG p l e R s m args below meth c D A nL Q k n ws tys lv pc (.int y :: .int x :: st) := g_icmp_ge F tgt hd ht (fun h => kt ((ti_le hy hx).mp h)) (fun h => kf (Int.not_le.mp (fun q => h ((ti_le hy hx).mpr q))))
theorem v_if_gt (F : gF p s m args meth c cc own nL Ts A) {x : Int32} {off : Int} (tgt : Nat) (hd : decode cc pc = .ok (.ifCond .gt off, 3)) (ht : (pc : Int) + off = (tgt : Int)) (a : Int) (hx : x.toInt = a) (kt : 0 < a → gG p l e R s m args below meth c D A nL Q k n ws tys lv tgt st) (kf : a ≤ 0 → gG p l e R s m args below meth c D A nL Q k n ws tys lv (pc + 3) st) : gG p l e R s m args below meth c D A nL Q k n ws tys lv pc (.int x :: st) := g_if_gt F tgt hd ht (fun h => kt ((ti_lt (show (0 : Int32).toInt = 0 from rfl) hx).mp h)) (fun h => kf (Int.not_lt.mp (fun q => h ((ti_lt (show (0 : Int32).toInt = 0 from rfl) hx).mpr q))))
theorem v_icmp_gt (F : gF p s m args meth c cc own nL Ts A) {x y : Int32} {off : Int} (tgt : Nat) (hd : decode cc pc = .ok (.if_icmp .gt off, 3)) (ht : (pc : Int) + off = (tgt : Int)) (a b : Int) (hx : x.toInt = a) (hy : y.toInt = b) (kt : b < a → gG p l e R s m args below meth c D A nL Q k n ws tys lv tgt st) (kf : a ≤ b → gG p l e R s m args below meth c D A nL Q k n ws tys lv (pc + 3) st) : gG p l e R s m args below meth c D A nL Q k n ws tys lv pc (.int y :: .int x :: st) := g_icmp_gt F tgt hd ht (fun h => kt ((ti_lt hy hx).mp h)) (fun h => kf (Int.not_lt.mp (fun q => h ((ti_lt hy hx).mpr q))))
theorem v_if_le (F : gF p s m args meth c cc own nL Ts A) {x : Int32} {off : Int} (tgt : Nat) (hd : decode cc pc = .ok (.ifCond .le off, 3)) (ht : (pc : Int) + off = (tgt : Int)) (a : Int) (hx : x.toInt = a) (kt : a ≤ 0 → gG p l e R s m args below meth c D A nL Q k n ws tys lv tgt st) (kf : 0 < a → gG p l e R s m args below meth c D A nL Q k n ws tys lv (pc + 3) st) : gG p l e R s m args below meth c D A nL Q k n ws tys lv pc (.int x :: st) := g_if_le F tgt hd ht (fun h => kt ((ti_le hx (show (0 : Int32).toInt = 0 from rfl)).mp h)) (fun h => kf (Int.not_le.mp (fun q => h ((ti_le hx (show (0 : Int32).toInt = 0 from rfl)).mpr q))))
theorem v_icmp_le (F : gF p s m args meth c cc own nL Ts A) {x y : Int32} {off : Int} (tgt : Nat) (hd : decode cc pc = .ok (.if_icmp .le off, 3)) (ht : (pc : Int) + off = (tgt : Int)) (a b : Int) (hx : x.toInt = a) (hy : y.toInt = b) (kt : a ≤ b → gG p l e R s m args below meth c D A nL Q k n ws tys lv tgt st) (kf : b < a → gG p l e R s m args below meth c D A nL Q k n ws tys lv (pc + 3) st) : gG p l e R s m args below meth c D A nL Q k n ws tys lv pc (.int y :: .int x :: st) := g_icmp_le F tgt hd ht (fun h => kt ((ti_le hx hy).mp h)) (fun h => kf (Int.not_le.mp (fun q => h ((ti_le hx hy).mpr q))))
end GV
