section GYS
variable {p : Program} {l : Launch} {e : Env} {R : Room} {s : State} {m : MethodId} {args : Array Value} {below : List Frame} {meth : Method} {c : Code} {cc : ByteArray} {own : String} {nL : Nat} {Ts : List Cond} {D : va_G} {A : Nat → Prop} {Q : State → Prop} {k n : Nat} {ws ws' : va_W} {tys : List (ClassId × FieldType)} {lv lv' : List (Nat × Value)} {pc : Nat} {st : List Value}
variable {Z : (Nat → Prop) → State → Heap → Prop}
theorem uz_ldcS (F : gF p s m args meth c cc own nL Ts A) {tx : String} {index q : Nat} (hR : vk_R own index tx q s) (hd : decode cc pc = .ok (.ldc index, 2)) (kk : gG p l e R s m args below meth c D A nL Q k n ws tys lv (pc + 2) (.ref q :: st)) : gG p l e R s m args below meth c D A nL Q k n ws tys lv pc st := fun H locs ls hP hD hK hS hl => va_ldcS F.1 F.2.1 F.2.2.2.1 hR hd (kk H locs ls hP hD hK hS hl)
theorem uz_getf (F : gF p s m args meth c cc own nL Ts A) {ob nm ds : String} {index q : Nat} {v : Value} (hE : va_OF ob nm ds v q A s s.heap) (hlink : (Cond.fieldLink own index ob nm ds).before args s = true) (hd : decode cc pc = .ok (.getfield index, 3)) (kk : gG p l e R s m args below meth c D A nL Q k n ws tys lv (pc + 3) (v :: st)) : gG p l e R s m args below meth c D A nL Q k n ws tys lv pc (.ref q :: st) := fun H locs ls hP hD hK hS hl => vk_getf F.1 F.2.1 hE hS F.2.2.2.1 hlink (fun _ h => h) hd (kk H locs ls hP hD hK hS hl)
theorem uz_gets (F : gF p s m args meth c cc own nL Ts A) {C f d : String} {v : Value} {index : Nat} (hE : va_Z C f d v A s s.heap) (hlink : (Cond.fieldLink own index C f d).before args s = true) (hd : decode cc pc = .ok (.getstatic index, 3)) (kk : gG p l e R s m args below meth c D A nL Q k n ws tys lv (pc + 3) (v :: st)) : gG p l e R s m args below meth c D A nL Q k n ws tys lv pc st := fun H locs ls hP hD hK hS hl => va_gets F.1 F.2.1 hE hS F.2.2.2.1 hlink (fun _ h9 => h9) hd (kk H locs ls hP hD hK hS hl)
theorem uz_tlen (F : gF p s m args meth c cc own nL Ts A) {ty : FieldType} {t N : Nat} {f : Nat → Value} (hT : va_T ty t N f A s s.heap) (v : Int32) (hv : Int32.ofNat N = v) (hd : decode cc pc = .ok (.arraylength, 1)) (kk : gG p l e R s m args below meth c D A nL Q k n ws tys lv (pc + 1) (.int v :: st)) : gG p l e R s m args below meth c D A nL Q k n ws tys lv pc (.ref t :: st) := fun H locs ls hP hD hK hS hl => va_tlen F.1 F.2.1 hT hS hv hd (kk H locs ls hP hD hK hS hl)
theorem uz_tb (F : gF p s m args meth c cc own nL Ts A) {t N : Nat} {f : Nat → Int32} (hT : va_T .byte t N (fun j => .int (f j)) A s s.heap) {i : Int32} (b : Int) (hi : i.toInt = b) (h0 : 0 ≤ b) (h1 : b < N) (hd : decode cc pc = .ok (.baload, 1)) (P : Int32 → Prop) (hP9 : ∀ k, P (f k)) (kk : ∀ y : Int32, P y → gG p l e R s m args below meth c D A nL Q k n ws tys lv (pc + 1) (.int y :: st)) : gG p l e R s m args below meth c D A nL Q k n ws tys lv pc (.int i :: .ref t :: st) := fun H locs ls hP hD hK hS hl => va_tb F.1 F.2.1 hT hS (ti_in hi h0 h1) rfl hd (kk _ (hP9 _) H locs ls hP hD hK hS hl)
theorem uz_tbx (F : gF p s m args meth c cc own nL Ts A) {t N : Nat} {f : Nat → Int32} (hT : va_T .byte t N (fun j => .int (f j)) A s s.heap) {i : Int32} (b : Int) (hi : i.toInt = b) (h0 : 0 ≤ b) (h1 : b < N) (hd : decode cc pc = .ok (.baload, 1)) (kk : gG p l e R s m args below meth c D A nL Q k n ws tys lv (pc + 1) (.int (f b.toNat) :: st)) : gG p l e R s m args below meth c D A nL Q k n ws tys lv pc (.int i :: .ref t :: st) := fun H locs ls hP hD hK hS hl => va_tb F.1 F.2.1 hT hS (ti_in hi h0 h1) (by show Value.int (f i.toInt.toNat) = .int (f b.toNat); rw [hi]) hd (kk H locs ls hP hD hK hS hl)
theorem va_O.kp {E : String} {t : Nat} {U : State} {H H1 : Heap} (h : va_O E t A U H) (hq : ∀ a : Nat, a < H.size → ¬ A a → H1[a]? = H[a]?) : ∃ cell : Cell, H1[t]? = some cell ∧ cell.vm.isStatics = false ∧ U.vm.findClass E = some cell.cls := by
  obtain ⟨cell, h1, h2, h3, h4⟩ := h
  exact ⟨cell, by rw [hq t (Array.getElem?_eq_some_iff.mp h1).1 h4]; exact h1, h2, h3⟩
theorem uz_call0Si (F : gF p s m args meth c cc own nL Ts A) (hst : gzS Z) (hZ : Z A s s.heap) {y : MethodName} {bytes : ByteArray} {maxL index nA fr lo : Nat} {ret : Option FieldType} {wy : List Cond} {As : List Value} {S : Type} {post : Int32 → S → Prop} (hM : ∀ sz : Nat, KiZ Z l y wy fr lo D As [] [] sz post (fun (_ : S) => [])) (cw : CallB R s args own index y bytes maxL ret wy (gR fr 0 0 lo) 0 0 nA ∧ (Cond.static y).before args s = true) (hn : As.length = nA) (hroom : (st.map fun v => v.category).sum ≤ 8) (hf : k ≤ R.cells ∧ n ≤ R.slots) (hd : decode cc pc = .ok (.invokestatic index, 3)) (kk : ∀ (r : Int32) (u : S), post r u → gG p l e R s m args below meth c D A nL Q k n ws tys lv (pc + 3) (.int r :: st)) : gG p l e R s m args below meth c D A nL Q k n ws tys lv pc (As.reverse ++ st) := by
  intro H locs ls hP hD hK hS hl
  have hFc := va_free (wc := []) hD hS F.2.2.2.2.2.1 [] rfl
  have hP0 : va_P D vwCl [] H := hP.sub [] rfl
  have hD0 : va_D A [] := hD.sub [] rfl rfl
  have hK0 : va_K D vwCl [] s := hK.sub [] rfl
  refine va_calli (va_runS (As := As) (rest := st) ⟨F.1, F.2.1, F.2.2.1, F.2.2.2.1, F.2.2.2.2.1⟩ (hM H.size) cw ⟨gq_blindZ hst, gq_preZ hst hZ hP0 hK0 hD0 hS hFc⟩ rfl hn hl.1 rfl (lv_room hroom) hd hf) hS (fun q _ h => hFc q h) hFc (fun r u t H1 locs1 ht hvm hw hB hz1 hk1 hS1 => ?_)
  obtain ⟨hP1, hK1, hD1⟩ := hB
  rw [ht] at hP1
  obtain ⟨hP2, hD2⟩ := va_join hP hD [] (List.range ws.length) rfl (gu_rm ws) (gu_rg _) (fun _ _ h => absurd h List.not_mem_nil) hk1 hFc hP1 hD1
  rw [List.append_nil] at hP2 hD2
  exact kk r u hw H1 locs1 ls hP2 hD2 hK hS1 hl
theorem uz_call0Vi (F : gF p s m args meth c cc own nL Ts A) (hst : gzS Z) (hZ : Z A s s.heap) {y : MethodName} {bytes : ByteArray} {maxL index nA fr lo : Nat} {ret : Option FieldType} {wy : List Cond} {b : Nat} {As : List Value} {S : Type} {post : Int32 → S → Prop} (hM : ∀ sz : Nat, KiZ Z l y wy fr lo D (.ref b :: As) [] [] sz post (fun (_ : S) => [])) {C : String} (cw : CallW R s args own C index y bytes maxL ret wy (gR fr 0 0 lo) 0 0 nA) (hO : va_O C b A s s.heap) (hn : As.length = nA) (hroom : (st.map fun v => v.category).sum ≤ 8) (hf : k ≤ R.cells ∧ n ≤ R.slots) (hd : decode cc pc = .ok (.invokevirtual index, 3)) (kk : ∀ (r : Int32) (u : S), post r u → gG p l e R s m args below meth c D A nL Q k n ws tys lv (pc + 3) (.int r :: st)) : gG p l e R s m args below meth c D A nL Q k n ws tys lv pc (As.reverse ++ .ref b :: st) := by
  intro H locs ls hP hD hK hS hl
  have hFc := va_free (wc := []) hD hS F.2.2.2.2.2.1 [] rfl
  have hP0 : va_P D vwCl [] H := hP.sub [] rfl
  have hD0 : va_D A [] := hD.sub [] rfl rfl
  have hK0 : va_K D vwCl [] s := hK.sub [] rfl
  refine va_calli (va_runV (As := As) (rest := st) ⟨F.1, F.2.1, F.2.2.1, F.2.2.2.1, F.2.2.2.2.1⟩ (hM H.size) cw ⟨gq_blindZ hst, hO.kp hS.2.1, gq_preZ hst hZ hP0 hK0 hD0 hS hFc⟩ rfl hn hl.1 rfl (lv_room hroom) hd hf) hS (fun q _ h => hFc q h) hFc (fun r u t H1 locs1 ht hvm hw hB hz1 hk1 hS1 => ?_)
  obtain ⟨hP1, hK1, hD1⟩ := hB
  rw [ht] at hP1
  obtain ⟨hP2, hD2⟩ := va_join hP hD [] (List.range ws.length) rfl (gu_rm ws) (gu_rg _) (fun _ _ h => absurd h List.not_mem_nil) hk1 hFc hP1 hD1
  rw [List.append_nil] at hP2 hD2
  exact kk r u hw H1 locs1 ls hP2 hD2 hK hS1 hl
theorem uz_call0Sv (F : gF p s m args meth c cc own nL Ts A) (hst : gzS Z) (hZ : Z A s s.heap) {y : MethodName} {bytes : ByteArray} {maxL index nA fr lo : Nat} {ret : Option FieldType} {wy : List Cond} {As : List Value} {S : Type} {post : S → Prop} (hM : ∀ sz : Nat, KvZ Z l y wy fr lo D As [] [] sz post (fun (_ : S) => [])) (cw : CallB R s args own index y bytes maxL ret wy (gR fr 0 0 lo) 0 0 nA ∧ (Cond.static y).before args s = true) (hn : As.length = nA) (hroom : (st.map fun v => v.category).sum ≤ 8) (hf : k ≤ R.cells ∧ n ≤ R.slots) (hd : decode cc pc = .ok (.invokestatic index, 3)) (kk : ∀ (u : S), post u → gG p l e R s m args below meth c D A nL Q k n ws tys lv (pc + 3) st) : gG p l e R s m args below meth c D A nL Q k n ws tys lv pc (As.reverse ++ st) := by
  intro H locs ls hP hD hK hS hl
  have hFc := va_free (wc := []) hD hS F.2.2.2.2.2.1 [] rfl
  have hP0 : va_P D vwCl [] H := hP.sub [] rfl
  have hD0 : va_D A [] := hD.sub [] rfl rfl
  have hK0 : va_K D vwCl [] s := hK.sub [] rfl
  refine va_callv (va_runS (As := As) (rest := st) ⟨F.1, F.2.1, F.2.2.1, F.2.2.2.1, F.2.2.2.2.1⟩ (hM H.size) cw ⟨gq_blindZ hst, gq_preZ hst hZ hP0 hK0 hD0 hS hFc⟩ rfl hn hl.1 rfl (lv_room hroom) hd hf) hS (fun q _ h => hFc q h) hFc (fun u t H1 locs1 ht hvm hw hB hz1 hk1 hS1 => ?_)
  obtain ⟨hP1, hK1, hD1⟩ := hB
  rw [ht] at hP1
  obtain ⟨hP2, hD2⟩ := va_join hP hD [] (List.range ws.length) rfl (gu_rm ws) (gu_rg _) (fun _ _ h => absurd h List.not_mem_nil) hk1 hFc hP1 hD1
  rw [List.append_nil] at hP2 hD2
  exact kk u hw H1 locs1 ls hP2 hD2 hK hS1 hl
theorem uz_call0Vv (F : gF p s m args meth c cc own nL Ts A) (hst : gzS Z) (hZ : Z A s s.heap) {y : MethodName} {bytes : ByteArray} {maxL index nA fr lo : Nat} {ret : Option FieldType} {wy : List Cond} {b : Nat} {As : List Value} {S : Type} {post : S → Prop} (hM : ∀ sz : Nat, KvZ Z l y wy fr lo D (.ref b :: As) [] [] sz post (fun (_ : S) => [])) {C : String} (cw : CallW R s args own C index y bytes maxL ret wy (gR fr 0 0 lo) 0 0 nA) (hO : va_O C b A s s.heap) (hn : As.length = nA) (hroom : (st.map fun v => v.category).sum ≤ 8) (hf : k ≤ R.cells ∧ n ≤ R.slots) (hd : decode cc pc = .ok (.invokevirtual index, 3)) (kk : ∀ (u : S), post u → gG p l e R s m args below meth c D A nL Q k n ws tys lv (pc + 3) st) : gG p l e R s m args below meth c D A nL Q k n ws tys lv pc (As.reverse ++ .ref b :: st) := by
  intro H locs ls hP hD hK hS hl
  have hFc := va_free (wc := []) hD hS F.2.2.2.2.2.1 [] rfl
  have hP0 : va_P D vwCl [] H := hP.sub [] rfl
  have hD0 : va_D A [] := hD.sub [] rfl rfl
  have hK0 : va_K D vwCl [] s := hK.sub [] rfl
  refine va_callv (va_runV (As := As) (rest := st) ⟨F.1, F.2.1, F.2.2.1, F.2.2.2.1, F.2.2.2.2.1⟩ (hM H.size) cw ⟨gq_blindZ hst, hO.kp hS.2.1, gq_preZ hst hZ hP0 hK0 hD0 hS hFc⟩ rfl hn hl.1 rfl (lv_room hroom) hd hf) hS (fun q _ h => hFc q h) hFc (fun u t H1 locs1 ht hvm hw hB hz1 hk1 hS1 => ?_)
  obtain ⟨hP1, hK1, hD1⟩ := hB
  rw [ht] at hP1
  obtain ⟨hP2, hD2⟩ := va_join hP hD [] (List.range ws.length) rfl (gu_rm ws) (gu_rg _) (fun _ _ h => absurd h List.not_mem_nil) hk1 hFc hP1 hD1
  rw [List.append_nil] at hP2 hD2
  exact kk u hw H1 locs1 ls hP2 hD2 hK hS1 hl
end GYS
