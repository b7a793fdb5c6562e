/-- a String constant: its object q, its row v of n bytes bs; what String's own statics hold -/
def zS (q v n : Nat) (bs : Nat → Int32) (A : Nat → Prop) (U : State) (H : Heap) : Prop := va_O "java/lang/String" q A U H ∧ va_OF "java/lang/String" "coder" "B" (.int 0) q A U H ∧ va_OF "java/lang/String" "value" "[B" (.ref v) q A U H ∧ va_T .byte v n (fun j => .int (bs j)) A U H ∧ va_Z "java/lang/String" "COMPACT_STRINGS" "Z" (.int 1) A U H ∧ va_Zq "jdk/internal/util/Preconditions" "SIOOBE_FORMATTER" "Ljava/util/function/BiFunction;" A U H
theorem zS_st {q v n : Nat} {bs : Nat → Int32} : gzS (zS q v n bs) := ⟨fun A B s U H locs h hS hAB hW => ⟨((h.1.kept hS.2.1).narrow hAB).moved hW.alike, ((h.2.1.kept hS.2.1).narrow hAB).moved hW.alike, ((h.2.2.1.kept hS.2.1).narrow hAB).moved hW.alike, ((h.2.2.2.1.kept hS.2.1).narrow hAB).moved hW.alike, ((h.2.2.2.2.1.kept hS.2.1).narrow hAB).moved hW.alike, ((h.2.2.2.2.2.kept hS.2.1).narrow hAB).moved hW.alike⟩,
  fun A U g mk a h => ⟨h.1.moved (U := U.calling g mk a) (Vm.Alike.refl U.vm), h.2.1.moved (U := U.calling g mk a) (Vm.Alike.refl U.vm), h.2.2.1.moved (U := U.calling g mk a) (Vm.Alike.refl U.vm), h.2.2.2.1.moved (U := U.calling g mk a) (Vm.Alike.refl U.vm), h.2.2.2.2.1.moved (U := U.calling g mk a) (Vm.Alike.refl U.vm), h.2.2.2.2.2.moved (U := U.calling g mk a) (Vm.Alike.refl U.vm)⟩⟩
/-- where a byte stands first -/
def zIx (bs : Nat → Int32) (n : Int) (c : Int32) (r : Int) : Prop := (0 ≤ r ∧ r < n ∧ bs r.toNat = c ∧ ∀ j : Nat, (j : Int) < r → bs j ≠ c) ∨ (r = -1 ∧ ∀ j : Nat, (j : Int) < n → bs j ≠ c)
theorem zIx_1 {bs : Nat → Int32} {c : Int32} {x y : Int} (h : ∀ j : Nat, (j : Int) < x → bs j ≠ c) (h0 : 0 ≤ x) (hy : y = x + 1) (hn : bs x.toNat ≠ c) : ∀ j : Nat, (j : Int) < y → bs j ≠ c := fun j hj => by
  by_cases e : j = x.toNat
  · rw [e]; exact hn
  · exact h j (by omega)
theorem ti_nat {n : Nat} (h : n ≤ 1000) : (Int32.ofNat n).toInt = (n : Int) := Int32.toInt_ofNat_of_lt (by omega)
theorem ti_narC {v : Int32} {a : Int} (hv : v.toInt = a) (h0 : 0 ≤ a) (h1 : a ≤ 65535) : narrow .char (.int v) = .int v := by
  show Value.int ((v.toUInt32 % 65536).toInt32) = .int v
  congr 1
  apply Int32.toInt_inj.mp
  have n1 : v.toBitVec.toNat = v.toInt.toNat := by
    have e1 : v.toInt = if 2 * v.toBitVec.toNat < 2 ^ 32 then (v.toBitVec.toNat : Int) else (v.toBitVec.toNat : Int) - ((2 ^ 32 : Nat) : Int) := BitVec.toInt_eq_toNat_cond _
    have := v.toBitVec.isLt
    split at e1 <;> omega
  have e2 : v.toUInt32 % 65536 = v.toUInt32 := by
    apply UInt32.toNat_inj.mp
    rw [UInt32.toNat_mod]
    have : v.toUInt32.toNat = v.toBitVec.toNat := rfl
    rw [this]
    exact Nat.mod_eq_of_lt (by rw [n1]; show v.toInt.toNat < 65536; omega)
  rw [e2]
  rfl
theorem ti_shr0 (x : Int32) : x >>> ((0 : Int32) &&& 31) = x := by
  rw [show ((0 : Int32) &&& 31) = 0 from rfl]
  exact Int32.shiftRight_zero
theorem uz_i2c {p : Program} {l : Launch} {e : Env} {R : Room} {s : State} {m : MethodId} {args : Array Value} {below : List Frame} {meth : Method} {c : Code} {cc : ByteArray} {own : String} {nL : Nat} {Ts : List Cond} {D : va_G} {A : Nat → Prop} {Q : State → Prop} {k n : Nat} {ws : va_W} {tys : List (ClassId × FieldType)} {lv : List (Nat × Value)} {pc : Nat} {st : List Value} (F : gF p s m args meth c cc own nL Ts A) {x : Int32} (hd : decode cc pc = .ok (.i2c, 1)) (a : Int) (hx : x.toInt = a) (h0 : 0 ≤ a) (h1 : a ≤ 65535) (kk : gG p l e R s m args below meth c D A nL Q k n ws tys lv (pc + 1) (.int x :: st)) : gG p l e R s m args below meth c D A nL Q k n ws tys lv pc (.int x :: st) := g_i2c F hd (by
  have h9 : (x.toUInt32 % 65536).toInt32 = x := by
    have := ti_narC hx h0 h1
    exact Value.int.inj this
  rw [h9]; exact kk)
