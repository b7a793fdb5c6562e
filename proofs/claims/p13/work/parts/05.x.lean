section GX
variable {p : Program} {l : Launch} {e : Env} {R : Room} {s : State} {m : MethodId} {args : Array Value} {below : List Frame} {meth : Method} {c : Code} {cc : ByteArray} {own : String} {nL : Nat} {Ts : List Cond} {D : va_G} {A : Nat → Prop} {Q : State → Prop} {k n : Nat} {ws ws' : va_W} {tys : List (ClassId × FieldType)} {lv lv' : List (Nat × Value)} {pc : Nat} {st : List Value}
theorem vp_narB (x : Int32) : -128 ≤ (vp_nar .byte x).toInt ∧ (vp_nar .byte x).toInt ≤ 127 := by
  show -128 ≤ (x.toInt8.toInt32).toInt ∧ (x.toInt8.toInt32).toInt ≤ 127
  rw [Int8.toInt_toInt32]
  have h1 := Int8.le_toInt x.toInt8
  have h2 := Int8.toInt_lt x.toInt8
  omega
theorem vp_narZ (x : Int32) : 0 ≤ (vp_nar .boolean x).toInt ∧ (vp_nar .boolean x).toInt ≤ 1 := by
  have h := ti_andm (x := x) (y := 1) (b := 1) rfl (by decide)
  exact h
theorem ti_01 {v : Int32} {a : Int} (hv : v.toInt = a) (h0 : 0 ≤ a) (h1 : a ≤ 1) : v = 0 ∨ v = 1 := by
  rcases (show a = 0 ∨ a = 1 by omega) with h | h
  · exact Or.inl ((ti_eq hv (show (0 : Int32).toInt = 0 from rfl)).mpr h)
  · exact Or.inr ((ti_eq hv (show (1 : Int32).toInt = 1 from rfl)).mpr h)
theorem ti_nb {v : Int32} (h : v = 0 ∨ v = 1) : narrow .boolean (.int v) = .int v := by rcases h with rfl | rfl <;> rfl
theorem ti_fb {v : Int32} (h : v = 0 ∨ v = 1) : fits .boolean (.int v) = true := by rcases h with rfl | rfl <;> rfl
theorem ti_xor {x y : Int32} {a b : Int} (hx : x.toInt = a) (hy : y.toInt = b) (h1 : 0 ≤ a) (h2 : 0 ≤ b) : 0 ≤ (x ^^^ y).toInt := by
  have e1 : x.toBitVec.msb = false := by
    rw [BitVec.msb_eq_toInt]
    have : x.toBitVec.toInt = a := hx
    rw [this]; simp; omega
  have e2 : y.toBitVec.msb = false := by
    rw [BitVec.msb_eq_toInt]
    have : y.toBitVec.toInt = b := hy
    rw [this]; simp; omega
  have e3 : (x.toBitVec ^^^ y.toBitVec).msb = false := by rw [BitVec.msb_xor, e1, e2]; rfl
  rw [BitVec.msb_eq_toInt] at e3
  have e4 : (x ^^^ y).toInt = (x.toBitVec ^^^ y.toBitVec).toInt := rfl
  rw [e4]
  simpa using e3
theorem ti_maxb {x y : Int32} {a b : Int} (hx : x.toInt = a) (hy : y.toInt = b) : a ≤ (if x < y then y else x).toInt ∧ b ≤ (if x < y then y else x).toInt ∧ ((if x < y then y else x).toInt = a ∨ (if x < y then y else x).toInt = b) := by
  by_cases h : x < y
  · rw [if_pos h, hy]; have := (ti_lt hx hy).mp h; omega
  · rw [if_neg h, hx]; have : ¬ a < b := fun q => h ((ti_lt hx hy).mpr q); omega
theorem ti_minb {x y : Int32} {a b : Int} (hx : x.toInt = a) (hy : y.toInt = b) : (if y < x then y else x).toInt ≤ a ∧ (if y < x then y else x).toInt ≤ b ∧ ((if y < x then y else x).toInt = a ∨ (if y < x then y else x).toInt = b) := by
  by_cases h : y < x
  · rw [if_pos h, hy]; have := (ti_lt hy hx).mp h; omega
  · rw [if_neg h, hx]; have : ¬ b < a := fun q => h ((ti_lt hy hx).mpr q); omega
theorem ti_absb {x : Int32} {a : Int} (hx : x.toInt = a) (h1 : -2147483648 < a) : 0 ≤ (if 0 ≤ x then x else 0 - x).toInt ∧ a ≤ (if 0 ≤ x then x else 0 - x).toInt ∧ -a ≤ (if 0 ≤ x then x else 0 - x).toInt ∧ ((if 0 ≤ x then x else 0 - x).toInt = a ∨ (if 0 ≤ x then x else 0 - x).toInt = -a) := by
  have hz : (0 : Int32).toInt = 0 := rfl
  have hr := ti_rng x
  by_cases h : 0 ≤ x
  · rw [if_pos h, hx]; have := (ti_le hz hx).mp h; omega
  · have h2 : ¬ 0 ≤ a := fun q => h ((ti_le hz hx).mpr q)
    rw [if_neg h, ti_sub hz hx (by omega) (by omega)]; omega
theorem u_lg {x y : Int64} {a b : Int} (hx : x.toInt = a) (hy : y.toInt = b) : (lg_cmp x y = -1 ∧ a < b) ∨ (lg_cmp x y = 0 ∧ a = b) ∨ (lg_cmp x y = 1 ∧ b < a) := by
  subst hx
  subst hy
  unfold lg_cmp
  by_cases h1 : x > y
  · right; right
    exact ⟨if_pos h1, Int64.lt_iff_toInt_lt.mp h1⟩
  · by_cases h2 : x = y
    · right; left
      exact ⟨by rw [if_neg h1, if_pos h2], by rw [h2]⟩
    · left
      refine ⟨by rw [if_neg h1, if_neg h2], ?_⟩
      have h3 : ¬ y.toInt < x.toInt := fun q => h1 (Int64.lt_iff_toInt_lt.mpr q)
      have h4 : ¬ x.toInt = y.toInt := fun q => h2 (Int64.toInt_inj.mp q)
      omega
theorem u_lcmp (F : gF p s m args meth c cc own nL Ts A) {x y : Int64} (hd : decode cc pc = .ok (.lcmp, 1)) (a b : Int) (hx : x.toInt = a) (hy : y.toInt = b) (k1 : a < b → gG p l e R s m args below meth c D A nL Q k n ws tys lv (pc + 1) (.int (-1) :: st)) (k2 : a = b → gG p l e R s m args below meth c D A nL Q k n ws tys lv (pc + 1) (.int 0 :: st)) (k3 : b < a → gG p l e R s m args below meth c D A nL Q k n ws tys lv (pc + 1) (.int 1 :: st)) : gG p l e R s m args below meth c D A nL Q k n ws tys lv pc (.long y :: .long x :: st) := by
  refine g_lcmp F hd ?_
  rcases u_lg hx hy with ⟨h1, h2⟩ | ⟨h1, h2⟩ | ⟨h1, h2⟩
  · rw [h1]; exact k1 h2
  · rw [h1]; exact k2 h2
  · rw [h1]; exact k3 h2
theorem u_ixor (F : gF p s m args meth c cc own nL Ts A) {x y : Int32} (hd : decode cc pc = .ok (.ixor, 1)) (a b : Int) (hx : x.toInt = a) (hy : y.toInt = b) (h1 : 0 ≤ a) (h2 : 0 ≤ b) (kk : ∀ z : Int32, 0 ≤ z.toInt → gG p l e R s m args below meth c D A nL Q k n ws tys lv (pc + 1) (.int z :: st)) : gG p l e R s m args below meth c D A nL Q k n ws tys lv pc (.int y :: .int x :: st) := g_ixor F hd (kk _ (ti_xor hx hy h1 h2))
theorem u_iaddc (F : gF p s m args meth c cc own nL Ts A) {x y : Int32} (hd : decode cc pc = .ok (.iadd, 1)) (a b : Int) (hx : x.toInt = a) (hy : y.toInt = b) (kk : ∀ z : Int32, (-2147483648 ≤ a + b ∧ a + b ≤ 2147483647 → z.toInt = a + b) → gG p l e R s m args below meth c D A nL Q k n ws tys lv (pc + 1) (.int z :: st)) : gG p l e R s m args below meth c D A nL Q k n ws tys lv pc (.int y :: .int x :: st) := g_iadd F hd (kk _ (fun h => ti_add hx hy h.1 h.2))
theorem u_isubc (F : gF p s m args meth c cc own nL Ts A) {x y : Int32} (hd : decode cc pc = .ok (.isub, 1)) (a b : Int) (hx : x.toInt = a) (hy : y.toInt = b) (kk : ∀ z : Int32, (-2147483648 ≤ a - b ∧ a - b ≤ 2147483647 → z.toInt = a - b) → gG p l e R s m args below meth c D A nL Q k n ws tys lv (pc + 1) (.int z :: st)) : gG p l e R s m args below meth c D A nL Q k n ws tys lv pc (.int y :: .int x :: st) := g_isub F hd (kk _ (fun h => ti_sub hx hy h.1 h.2))
theorem u_imulb (F : gF p s m args meth c cc own nL Ts A) {x y : Int32} (hd : decode cc pc = .ok (.imul, 1)) (a b : Int) (hx : x.toInt = a) (hy : y.toInt = b) (A1 B1 : Int) (h1 : 0 ≤ a) (h2 : a ≤ A1) (h3 : 0 ≤ b) (h4 : b ≤ B1) (h5 : A1 * B1 ≤ 2147483647) (kk : ∀ z : Int32, 0 ≤ z.toInt ∧ z.toInt ≤ A1 * B1 → gG p l e R s m args below meth c D A nL Q k n ws tys lv (pc + 1) (.int z :: st)) : gG p l e R s m args below meth c D A nL Q k n ws tys lv pc (.int y :: .int x :: st) := g_imul F hd (kk _ (ti_mulb hx hy h1 h2 h3 h4 h5))
theorem u_idivb (F : gF p s m args meth c cc own nL Ts A) {x y : Int32} (hd : decode cc pc = .ok (.idiv, 1)) (hne : ¬ y = 0) (a b : Int) (hx : x.toInt = a) (hy : y.toInt = b) (h1 : 0 ≤ a) (h2 : 0 < b) (kk : ∀ z : Int32, 0 ≤ z.toInt ∧ z.toInt ≤ a → gG p l e R s m args below meth c D A nL Q k n ws tys lv (pc + 1) (.int z :: st)) : gG p l e R s m args below meth c D A nL Q k n ws tys lv pc (.int y :: .int x :: st) := g_idiv F hd hne (kk _ (by rw [ti_div hx hy h1 h2]; exact ⟨Int.ediv_nonneg h1 (by omega), Int.ediv_le_self b h1⟩))
theorem u_iremb (F : gF p s m args meth c cc own nL Ts A) {x y : Int32} (hd : decode cc pc = .ok (.irem, 1)) (hne : ¬ y = 0) (a b : Int) (hx : x.toInt = a) (hy : y.toInt = b) (h1 : 0 ≤ a) (h2 : 0 < b) (kk : ∀ z : Int32, 0 ≤ z.toInt ∧ z.toInt < b ∧ z.toInt ≤ a → gG p l e R s m args below meth c D A nL Q k n ws tys lv (pc + 1) (.int z :: st)) : gG p l e R s m args below meth c D A nL Q k n ws tys lv pc (.int y :: .int x :: st) := g_irem F hd hne (kk _ (ti_remb hx hy h1 h2))
theorem u_mmax (F : gF p s m args meth c cc own nL Ts A) {index : Nat} {x y : Int32} (hlink : (Cond.methodLink own index Lib.Math.max.name).before args s = true) (hstat : (Cond.static Lib.Math.max.name).before args s = true) (hini : (Cond.initialized "java/lang/Math").before args s = true) (hcode : (Cond.code Lib.Math.max.name Lib.Math.max.code 2 (some .int)).before args s = true) (hfr : 1 ≤ R.frames) (hlo : (st.map fun v => v.category).sum + 13 ≤ R.locals) (hkc : k ≤ R.cells) (hks : n ≤ R.slots) (hd : decode cc pc = .ok (.invokestatic index, 3)) (a b : Int) (hx : x.toInt = a) (hy : y.toInt = b) (kk : ∀ z : Int32, a ≤ z.toInt ∧ b ≤ z.toInt ∧ (z.toInt = a ∨ z.toInt = b) → gG p l e R s m args below meth c D A nL Q k n ws tys lv (pc + 3) (.int z :: st)) : gG p l e R s m args below meth c D A nL Q k n ws tys lv pc (.int y :: .int x :: st) := g_mmax F hlink hstat hini hcode hfr hlo hkc hks hd (kk _ (ti_maxb hx hy))
theorem u_mmin (F : gF p s m args meth c cc own nL Ts A) {index : Nat} {x y : Int32} (hlink : (Cond.methodLink own index Lib.Math.min.name).before args s = true) (hstat : (Cond.static Lib.Math.min.name).before args s = true) (hini : (Cond.initialized "java/lang/Math").before args s = true) (hcode : (Cond.code Lib.Math.min.name Lib.Math.min.code 2 (some .int)).before args s = true) (hfr : 1 ≤ R.frames) (hlo : (st.map fun v => v.category).sum + 13 ≤ R.locals) (hkc : k ≤ R.cells) (hks : n ≤ R.slots) (hd : decode cc pc = .ok (.invokestatic index, 3)) (a b : Int) (hx : x.toInt = a) (hy : y.toInt = b) (kk : ∀ z : Int32, z.toInt ≤ a ∧ z.toInt ≤ b ∧ (z.toInt = a ∨ z.toInt = b) → gG p l e R s m args below meth c D A nL Q k n ws tys lv (pc + 3) (.int z :: st)) : gG p l e R s m args below meth c D A nL Q k n ws tys lv pc (.int y :: .int x :: st) := g_mmin F hlink hstat hini hcode hfr hlo hkc hks hd (kk _ (ti_minb hx hy))
theorem u_mabs (F : gF p s m args meth c cc own nL Ts A) {index : Nat} {x : Int32} (hlink : (Cond.methodLink own index Lib.Math.abs.name).before args s = true) (hstat : (Cond.static Lib.Math.abs.name).before args s = true) (hini : (Cond.initialized "java/lang/Math").before args s = true) (hcode : (Cond.code Lib.Math.abs.name Lib.Math.abs.code 1 (some .int)).before args s = true) (hfr : 1 ≤ R.frames) (hlo : (st.map fun v => v.category).sum + 13 ≤ R.locals) (hkc : k ≤ R.cells) (hks : n ≤ R.slots) (hd : decode cc pc = .ok (.invokestatic index, 3)) (a : Int) (hx : x.toInt = a) (h1 : -2147483648 < a) (kk : ∀ z : Int32, 0 ≤ z.toInt ∧ a ≤ z.toInt ∧ -a ≤ z.toInt ∧ (z.toInt = a ∨ z.toInt = -a) → gG p l e R s m args below meth c D A nL Q k n ws tys lv (pc + 3) (.int z :: st)) : gG p l e R s m args below meth c D A nL Q k n ws tys lv pc (.int x :: st) := g_mabs F hlink hstat hini hcode hfr hlo hkc hks hd (kk _ (ti_absb hx h1))
theorem u0_mabs (F : gF p s m args meth c cc own nL Ts A) {index : Nat} {x : Int32} (hlink : (Cond.methodLink own index Lib.Math.abs.name).before args s = true) (hstat : (Cond.static Lib.Math.abs.name).before args s = true) (hini : (Cond.initialized "java/lang/Math").before args s = true) (hcode : (Cond.code Lib.Math.abs.name Lib.Math.abs.code 1 (some .int)).before args s = true) (hfr : 1 ≤ R.frames) (hlo : (st.map fun v => v.category).sum + 13 ≤ R.locals) (hkc : k ≤ R.cells) (hks : n ≤ R.slots) (hd : decode cc pc = .ok (.invokestatic index, 3)) (kk : ∀ z : Int32, gG p l e R s m args below meth c D A nL Q k n ws tys lv (pc + 3) (.int z :: st)) : gG p l e R s m args below meth c D A nL Q k n ws tys lv pc (.int x :: st) := g_mabs F hlink hstat hini hcode hfr hlo hkc hks hd (kk _)
theorem u_copyi (F : gF p s m args meth c cc own nL Ts A) {index : Nat} (hlink : (Cond.methodLink own index arraycopyName).before args s = true) (hnat : (Cond.native arraycopyName).before args s = true) (hstat : (Cond.static arraycopyName).before args s = true) (hini : (Cond.initialized "java/lang/System").before args s = true) (q0 q1 t0 : Nat) {a a0 : Nat} {c0 : ClassId} {n0 n1 : Nat} {f g : Nat → Int32} (ha0 : ws[q0]? = some (a0, .inl (c0, n0, .inl f))) (ha1 : ws[q1]? = some (a, .inl (c0, n1, .inl g))) (ht0 : tys[t0]? = some (c0, .int)) {sp dp z : Int32} (b1 b2 b3 : Int) (e1 : sp.toInt = b1) (e2 : dp.toInt = b2) (e3 : z.toInt = b3) (h1 : 0 ≤ b1) (h2 : 0 ≤ b2) (h3 : 0 ≤ b3) (h4 : b1 + b3 ≤ n0) (h5 : b2 + b3 ≤ n1) (hfr : 1 ≤ R.frames) (hlo : (st.map fun v => v.category).sum + (nativeFrameWords "java/lang/System" "arraycopy" 5 + 11) ≤ R.locals) (w2 : va_W) (hw : ws.set q1 (a, .inl (c0, n1, .inl (va_cpy f g b1.toNat b2.toNat b3.toNat))) = w2) (hd : decode cc pc = .ok (.invokestatic index, 3)) (kk : gG p l e R s m args below meth c D A nL Q k n w2 tys lv (pc + 3) st) : gG p l e R s m args below meth c D A nL Q k n ws tys lv pc (.int z :: .int dp :: .ref a :: .int sp :: .ref a0 :: st) := by
  have c1 : sp.toNatClampNeg = b1.toNat := by rw [← e1]; rfl
  have c2 : dp.toNatClampNeg = b2.toNat := by rw [← e2]; rfl
  have c3 : z.toNatClampNeg = b3.toNat := by rw [← e3]; rfl
  have hz : (0 : Int32).toInt = 0 := rfl
  refine g_copyi F hlink hnat hstat hini q0 q1 t0 ha0 ha1 ht0 (fun q => ?_) (fun q => ?_) (fun q => ?_) (by rw [c1, c3]; omega) (by rw [c2, c3]; omega) hfr hlo w2 (by rw [c1, c2, c3]; exact hw) hd kk
  · have := (ti_lt e1 hz).mp q; omega
  · have := (ti_lt e2 hz).mp q; omega
  · have := (ti_lt e3 hz).mp q; omega
theorem g_tableIn (F : gF p s m args meth c cc own nL Ts A) {dflt lo hi : Int} {offs : Array Int} {len : Nat} {x : Int32} {off : Int} (tgt : Nat) (hd : decode cc pc = .ok (.tableswitch dflt lo hi offs, len)) (h1 : ¬ x.toInt < lo) (h2 : ¬ hi < x.toInt) (ho : offs[(x.toInt - lo).toNat]? = some off) (ht : (pc : Int) + off = (tgt : Int)) (kk : gG p l e R s m args below meth c D A nL Q k n ws tys lv tgt st) : gG p l e R s m args below meth c D A nL Q k n ws tys lv pc (.int x :: st) := fun H locs ls hP hD hK hS hl => lv_tableIn F.1 F.2.1 hd h1 h2 ho ht (kk H locs ls hP hD hK hS hl)
theorem g_tableOut (F : gF p s m args meth c cc own nL Ts A) {dflt lo hi : Int} {offs : Array Int} {len : Nat} {x : Int32} (tgt : Nat) (hd : decode cc pc = .ok (.tableswitch dflt lo hi offs, len)) (h : x.toInt < lo ∨ hi < x.toInt) (ht : (pc : Int) + dflt = (tgt : Int)) (kk : gG p l e R s m args below meth c D A nL Q k n ws tys lv tgt st) : gG p l e R s m args below meth c D A nL Q k n ws tys lv pc (.int x :: st) := fun H locs ls hP hD hK hS hl => lv_tableOut F.1 F.2.1 hd h ht (kk H locs ls hP hD hK hS hl)
end GX
