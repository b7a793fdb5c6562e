section GWZ
variable {p : Program} {l : Launch} {e : Env} {R : Room} {s : State} {m : MethodId} {args : Array Value} {below : List Frame} {meth : Method} {c : Code} {cc : ByteArray} {own : String} {nL : Nat} {Ts : List Cond} {D : va_G} {A : Nat → Prop} {Q : State → Prop} {k n : Nat} {ws ws' : va_W} {tys : List (ClassId × FieldType)} {lv lv' : List (Nat × Value)} {pc : Nat} {st : List Value}
variable {Z : (Nat → Prop) → State → Heap → Prop}
theorem gwz_ofWx {hh : List (Nat × Nat × Nat × Nat)} {y : MethodName} {wy wy' : List Cond} {rm : Room} {av : List Value} {wc : va_W} {tc : List (ClassId × FieldType)} {sz : Nat} {Qc : Array Value → State → Outcome → State → Prop} {mc ms : Nat} {maxL : Nat} {ret : Option FieldType} (hy : plainName y.cls = true) (hw : wy = Cond.codeWith y cc maxL ret hh :: wy') (hav : (lg_sl av).length ≤ maxL) (hlv : lv_args 0 av = lv) (body : ∀ (p : Program) (e : Env) (s : State) (m : MethodId) (args : Array Value) (below : List Frame) (meth : Method) (c : Code) (A : Nat → Prop) (Q : State → Prop), A = va_A wc sz → Q = MQ below Qc args s mc ms (va_A wc sz) → Z A s s.heap → gF p s m args meth c cc y.cls maxL wy A → meth.sig.returnType = ret → meth.name = y.name → (c.exceptionTable.toList.map fun h => (h.startPc, h.endPc, h.handlerPc, h.catchType)) = hh → gG p l e rm s m args below meth c D A maxL Q 0 0 wc tc lv 0 []) : Met l y wy rm (va_Pc av (gq_UZ Z D wc tc sz)) Qc mc ms (va_A wc sz) := by
  refine va_MetW (hh := hh) (cc := cc) (maxL := maxL) (ret := ret) hy hw ?_
  intro p e s m args below meth c s₁ B hml hv
  obtain ⟨rfl, ⟨hsz, hP, hK, hD0⟩, hZ⟩ := hv
  obtain ⟨m9, meth9, c9, hn9, h91, h92, -, -, h95, -⟩ := Cond.codeWith_spec (atoms_spec (ws := wy) B.pre _ (by rw [hw]; exact List.mem_cons_self))
  cases B.named.symm.trans hn9
  cases B.method.symm.trans h91
  cases (Stand.of_body B).code.symm.trans h92
  have hl := lv_entry av (n := maxL) hav
  rw [lg_entry_eq]
  generalize (lg_sl av ++ List.replicate (maxL - (lg_sl av).length) Slot.unset).toArray = ls at hl ⊢
  rw [hlv] at hl
  exact body p e s m _ below meth c _ _ rfl rfl hZ ⟨B.exec, B.bytes, hml, findClass_of_methodNamed B.named, atoms_spec (ws := wy) B.pre, fun q h => Or.inr (hsz ▸ h), B.notSynchronized⟩ B.returns (name_of_methodNamed B.named B.method).1 h95 s.heap [] ls hP (hD0.self (sz := sz)) hK va_S.rf hl
end GWZ
theorem yKp.up12 {G G1 : gS} (h : yKp G G1) {k : Nat} {v : Int32} (hk : 3 ≤ k) : yKp G (gu_up G1 12 k v) := h.tr ⟨fun i _ => ⟨rfl, rfl⟩, fun q hq => show upd (G1 12) k v q = G1 12 q from if_neg (by omega)⟩
theorem y_z9 {G : gS} {x : Int} {y : Int} (h0 : 0 ≤ x) (hy : y = x + 1) (pz : ∀ q : Nat, (q : Int) < x → (G 9 q).toInt = 0) : ∀ q : Nat, (q : Int) < y → ((gu_up G 9 x.toNat (vp_nar .boolean 0)) 9 q).toInt = 0 := fun q h2 => by
  show (upd (G 9) x.toNat (vp_nar .boolean 0) q).toInt = 0
  by_cases e : q = x.toNat
  · rw [show upd (G 9) x.toNat (vp_nar .boolean 0) q = vp_nar .boolean 0 from if_pos e]; rfl
  · rw [show upd (G 9) x.toNat (vp_nar .boolean 0) q = G 9 q from if_neg e]; exact pz q (by omega)
theorem cp_1 {f g : Nat → Int32} {x y : Int} {v : Int32} (h0 : 0 ≤ x) (hy : y = x + 1) (h : ∀ q : Nat, (q : Int) < x → f q = g q) (hv : v = g x.toNat) : ∀ q : Nat, (q : Int) < y → upd f x.toNat v q = g q := fun q hq => by
  by_cases e : q = x.toNat
  · rw [show upd f x.toNat v q = v from if_pos e, hv, e]
  · rw [show upd f x.toNat v q = f q from if_neg e]; exact h q (by omega)
theorem y_z12 {G : gS} {x : Int} {y : Int} (h0 : 0 ≤ x) (hy : y = x + 1) (pz : ∀ q : Nat, 3 ≤ q → (q : Int) < x → (G 12 q).toInt = 0) : ∀ q : Nat, 3 ≤ q → (q : Int) < y → ((gu_up G 12 x.toNat 0) 12 q).toInt = 0 := fun q h1 h2 => by
  show (upd (G 12) x.toNat 0 q).toInt = 0
  by_cases e : q = x.toNat
  · rw [show upd (G 12) x.toNat 0 q = 0 from if_pos e]; rfl
  · rw [show upd (G 12) x.toNat 0 q = G 12 q from if_neg e]; exact pz q h1 (by omega)
