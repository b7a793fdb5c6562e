/-! what is told beside a world, and stays -/
def gzS (Z : (Nat → Prop) → State → Heap → Prop) : Prop := (∀ (A B : Nat → Prop) (s U : State) (H : Heap) (locs : List Loc), Z A s s.heap → va_S A s.heap H locs → (∀ q, B q → A q) → s.WarmedH U.vm → Z B U H) ∧ (∀ (A : Nat → Prop) (U : State) (g : JFrame) (mk : MethodId) (a : Array Value), Z A U U.heap → Z A (U.calling g mk a) (U.calling g mk a).heap)
def gq_UZ (Z : (Nat → Prop) → State → Heap → Prop) (D : va_G) (ws : va_W) (tys : List (ClassId × FieldType)) (sz : Nat) (U : State) : Prop := gq_U D ws tys sz U ∧ Z (va_A ws sz) U U.heap
def KiZ {S : Type} (Z : (Nat → Prop) → State → Heap → Prop) (l : Launch) (y : MethodName) (wy : List Cond) (fr lo : Nat) (D : va_G) (av : List Value) (wc : va_W) (tc : List (ClassId × FieldType)) (sz : Nat) (post : Int32 → S → Prop) (w1 : S → va_W) : Prop := Met l y wy (gR fr 0 0 lo) (va_Pc av (gq_UZ Z D wc tc sz)) (va_Qi post (gq_B D (va_A wc sz) w1 (fun _ => tc)) (va_A wc sz)) 0 0 (va_A wc sz)
def KvZ {S : Type} (Z : (Nat → Prop) → State → Heap → Prop) (l : Launch) (y : MethodName) (wy : List Cond) (fr lo : Nat) (D : va_G) (av : List Value) (wc : va_W) (tc : List (ClassId × FieldType)) (sz : Nat) (post : S → Prop) (w1 : S → va_W) : Prop := Met l y wy (gR fr 0 0 lo) (va_Pc av (gq_UZ Z D wc tc sz)) (va_Qv post (gq_B D (va_A wc sz) w1 (fun _ => tc)) (va_A wc sz)) 0 0 (va_A wc sz)
def KxiZ {S : Type} (Z : (Nat → Prop) → State → Heap → Prop) (l : Launch) (y : MethodName) (wy : List Cond) (fr lo : Nat) (D : va_G) (av : List Value) (wc : va_W) (tc : List (ClassId × FieldType)) (sz : Nat) (post : Int32 → S → Prop) (postT : S → Prop) (x : Nat) (w1 : S → va_W) : Prop := gx_Met l y wy (gR fr 0 0 lo) (va_Pc av (gq_UZ Z D wc tc sz)) (gx_Qi post postT x (gq_B D (va_A wc sz) w1 (fun _ => tc)) (va_A wc sz)) 0 0 (va_A wc sz)
def KxvZ {S : Type} (Z : (Nat → Prop) → State → Heap → Prop) (l : Launch) (y : MethodName) (wy : List Cond) (fr lo : Nat) (D : va_G) (av : List Value) (wc : va_W) (tc : List (ClassId × FieldType)) (sz : Nat) (post : S → Prop) (postT : S → Prop) (x : Nat) (w1 : S → va_W) : Prop := gx_Met l y wy (gR fr 0 0 lo) (va_Pc av (gq_UZ Z D wc tc sz)) (gx_Qv post postT x (gq_B D (va_A wc sz) w1 (fun _ => tc)) (va_A wc sz)) 0 0 (va_A wc sz)
section GYZ
variable {p : Program} {l : Launch} {e : Env} {R : Room} {s : State} {m : MethodId} {args : Array Value} {below : List Frame} {meth : Method} {c : Code} {cc : ByteArray} {own : String} {nL : Nat} {Ts : List Cond} {D : va_G} {A : Nat → Prop} {Q : State → Prop} {k n : Nat} {ws ws' : va_W} {tys : List (ClassId × FieldType)} {lv lv' : List (Nat × Value)} {pc : Nat} {st : List Value}
variable {Z : (Nat → Prop) → State → Heap → Prop}
theorem gq_blindZ (hst : gzS Z) {av : List Value} {tys : List (ClassId × FieldType)} {sz : Nat} : FrameBlind (va_Pc av (gq_UZ Z D ws tys sz)) := fun a U g mk q => ⟨q.1, ⟨q.2.1.1, q.2.1.2.1, va_K.moved (u := U) (U := U.calling g mk a) (Vm.Alike.refl U.vm) q.2.1.2.2.1, q.2.1.2.2.2⟩, hst.2 _ _ _ _ _ q.2.2⟩
theorem gq_preZ (hst : gzS Z) (hZ : Z A s s.heap) {av : List Value} {H : Heap} {locs : List Loc} (hP : va_P D vwCl ws H) (hK : va_K D vwCl tys s) (hD : va_D A ws) (hS : va_S A s.heap H locs) (hFc : ∀ q, va_A ws H.size q → A q) : ∀ U : State, U.heap = H → s.WarmedH U.vm → va_Pc av (gq_UZ Z D ws tys H.size) av.toArray U := fun U hU hW => ⟨rfl, (gq_pre (av := av) hP hK hD U hU hW).2, by rw [hU]; exact hst.1 A _ s U H locs hZ hS hFc hW⟩
theorem gz_ofW {y : MethodName} {wy wy' : List Cond} {rm : Room} {av : List Value} {wc : va_W} {tc : List (ClassId × FieldType)} {sz : Nat} {Qc : Array Value → State → Outcome → State → Prop} {mc ms : Nat} {maxL : Nat} {ret : Option FieldType} (hy : plainName y.cls = true) (hw : wy = Cond.code y cc maxL ret :: wy') (hav : (lg_sl av).length ≤ maxL) (hlv : lv_args 0 av = lv) (body : ∀ (p : Program) (e : Env) (s : State) (m : MethodId) (args : Array Value) (below : List Frame) (meth : Method) (c : Code) (A : Nat → Prop) (Q : State → Prop), A = va_A wc sz → Q = MQ below Qc args s mc ms (va_A wc sz) → Z A s s.heap → gF p s m args meth c cc y.cls maxL wy A → meth.sig.returnType = ret → meth.name = y.name → gG p l e rm s m args below meth c D A maxL Q 0 0 wc tc lv 0 []) : Met l y wy rm (va_Pc av (gq_UZ Z D wc tc sz)) Qc mc ms (va_A wc sz) := by
  refine Met.ofW (cc := cc) (maxL := maxL) (ret := ret) hy hw ?_
  intro p e s m args below meth c s₁ B hml hv
  obtain ⟨rfl, ⟨hsz, hP, hK, hD0⟩, hZ⟩ := hv
  have hl := lv_entry av (n := maxL) hav
  rw [lg_entry_eq]
  generalize (lg_sl av ++ List.replicate (maxL - (lg_sl av).length) Slot.unset).toArray = ls at hl ⊢
  rw [hlv] at hl
  exact body p e s m _ below meth c _ _ rfl rfl hZ ⟨B.exec, B.bytes, hml, findClass_of_methodNamed B.named, atoms_spec (ws := wy) B.pre, fun q h => Or.inr (hsz ▸ h), B.notSynchronized⟩ B.returns (name_of_methodNamed B.named B.method).1 s.heap [] ls hP (hD0.self (sz := sz)) hK va_S.rf hl
theorem gxz_ofW {y : MethodName} {wy wy' : List Cond} {rm : Room} {av : List Value} {wc : va_W} {tc : List (ClassId × FieldType)} {sz : Nat} {Qc : Array Value → State → Outcome → State → Prop} {mc ms : Nat} {maxL : Nat} {ret : Option FieldType} (hy : plainName y.cls = true) (hw : wy = Cond.code y cc maxL ret :: wy') (hav : (lg_sl av).length ≤ maxL) (hlv : lv_args 0 av = lv) (body : ∀ (p : Program) (e : Env) (s : State) (m : MethodId) (args : Array Value) (below : List Frame) (meth : Method) (c : Code) (A : Nat → Prop) (Q : State → Prop), A = va_A wc sz → Q = gx_MQ below Qc args s mc ms (va_A wc sz) → Z A s s.heap → gF p s m args meth c cc y.cls maxL wy A → meth.sig.returnType = ret → c.exceptionTable.toList = [] → gG p l e rm s m args below meth c D A maxL Q 0 0 wc tc lv 0 []) : gx_Met l y wy rm (va_Pc av (gq_UZ Z D wc tc sz)) Qc mc ms (va_A wc sz) := by
  refine MetFree.of_bodyS (code := cc) (maxLocals := maxL) (ret := ret) hy ?_ ?_
  · intro args s m h hn
    obtain ⟨meth, c, h1, h2, h3, h4, h5, h6, -, -⟩ := Cond.code_spec hn (atoms_spec (ws := wy) h _ (by rw [hw]; exact List.mem_cons_self))
    exact ⟨meth, c, h1, h2, h3, h4, h5, h6⟩
  · intro p e s m args below meth c s₁ B hml hv _
    have hh0 : s₁.heap = s.heap := by rw [B.state]; rfl
    have X₀ := Stand.of_body B
    obtain ⟨rfl, ⟨hsz, hP, hK, hD0⟩, hZ⟩ := hv
    obtain ⟨meth', c', h1, h2, -, -, -, -, h7, -⟩ := Cond.code_spec B.named (atoms_spec (ws := wy) B.pre _ (by rw [hw]; exact List.mem_cons_self))
    cases B.method.symm.trans h1
    cases X₀.code.symm.trans h2
    have hex : c.exceptionTable.toList = [] := List.eq_nil_of_length_eq_zero (by simpa [Array.isEmpty] using h7)
    have hl := lv_entry av (n := maxL) hav
    have G : W p l e (headSpec wy rm).room s m av.toArray below meth c s.heap [] 0 0 (gx_MQ below Qc av.toArray s mc ms (va_A wc sz)) (entryFrame m av.toArray maxL) := by
      rw [lg_entry_eq]
      generalize (lg_sl av ++ List.replicate (maxL - (lg_sl av).length) Slot.unset).toArray = ls at hl ⊢
      rw [hlv] at hl
      exact body p e s m _ below meth c _ _ rfl rfl hZ ⟨B.exec, B.bytes, hml, findClass_of_methodNamed B.named, atoms_spec (ws := wy) B.pre, fun q h => Or.inr (hsz ▸ h), B.notSynchronized⟩ B.returns hex s.heap [] ls hP (hD0.self (sz := sz)) hK va_S.rf hl
    obtain ⟨t, a1, o, b1, b2, b3⟩ := G s₁ hh0 X₀
    exact ⟨t, o, a1, b1, b2, ⟨b3.1, b3.2⟩⟩
theorem uz_callVi (F : gF p s m args meth c cc own nL Ts A) (hst : gzS Z) (hZ : Z A s s.heap) {y : MethodName} {bytes : ByteArray} {maxL index nA fr lo : Nat} {ret : Option FieldType} {wy : List Cond} {b : Nat} {As : List Value} {S : Type} {post : Int32 → S → Prop} {w1 : S → va_W} (hM : ∀ sz : Nat, KiZ Z l y wy fr lo D (.ref b :: As) ws tys sz post w1) {C : String} {ci : Nat} {T : u_T} {N : Nat} {fs : List Value} (cw : CallW R s args own C index y bytes maxL ret wy (gR fr 0 0 lo) 0 0 nA) (hci : vwCl[ci]? = some (C, T, N)) (q0 : Nat) (hb0 : ws[q0]? = some (b, .inr (ci, fs))) (hn : As.length = nA) (hroom : (st.map fun v => v.category).sum ≤ 8) (hf : k ≤ R.cells ∧ n ≤ R.slots) (hd : decode cc pc = .ok (.invokevirtual index, 3)) (kk : ∀ (r : Int32) (u : S), post r u → gG p l e R s m args below meth c D A nL Q k n (w1 u) tys lv (pc + 3) (.int r :: st)) : gG p l e R s m args below meth c D A nL Q k n ws tys lv pc (As.reverse ++ .ref b :: st) := by
  intro H locs ls hP hD hK hS hl
  have hFc := va_free (wc := ws) hD hS F.2.2.2.2.2.1 (List.range ws.length) (gu_rm ws)
  refine va_calli (va_runV (As := As) (rest := st) ⟨F.1, F.2.1, F.2.2.1, F.2.2.2.1, F.2.2.2.2.1⟩ (hM H.size) cw ⟨gq_blindZ hst, va_recv hK hP hci hb0, gq_preZ hst hZ hP hK hD hS hFc⟩ rfl hn hl.1 rfl (lv_room hroom) hd hf) hS (fun q _ h => hFc q h) hFc (fun r u t H1 locs1 ht hvm hw hB hz1 hk1 hS1 => ?_)
  obtain ⟨hP1, hK1, hD1⟩ := hB
  rw [ht] at hP1
  exact kk r u hw H1 locs1 ls hP1 (hD1.weaken (fun k q _ h => hFc q.1 h)) hK hS1 hl
theorem uz_callVv (F : gF p s m args meth c cc own nL Ts A) (hst : gzS Z) (hZ : Z A s s.heap) {y : MethodName} {bytes : ByteArray} {maxL index nA fr lo : Nat} {ret : Option FieldType} {wy : List Cond} {b : Nat} {As : List Value} {S : Type} {post : S → Prop} {w1 : S → va_W} (hM : ∀ sz : Nat, KvZ Z l y wy fr lo D (.ref b :: As) ws tys sz post w1) {C : String} {ci : Nat} {T : u_T} {N : Nat} {fs : List Value} (cw : CallW R s args own C index y bytes maxL ret wy (gR fr 0 0 lo) 0 0 nA) (hci : vwCl[ci]? = some (C, T, N)) (q0 : Nat) (hb0 : ws[q0]? = some (b, .inr (ci, fs))) (hn : As.length = nA) (hroom : (st.map fun v => v.category).sum ≤ 8) (hf : k ≤ R.cells ∧ n ≤ R.slots) (hd : decode cc pc = .ok (.invokevirtual index, 3)) (kk : ∀ (u : S), post u → gG p l e R s m args below meth c D A nL Q k n (w1 u) tys lv (pc + 3) st) : gG p l e R s m args below meth c D A nL Q k n ws tys lv pc (As.reverse ++ .ref b :: st) := by
  intro H locs ls hP hD hK hS hl
  have hFc := va_free (wc := ws) hD hS F.2.2.2.2.2.1 (List.range ws.length) (gu_rm ws)
  refine va_callv (va_runV (As := As) (rest := st) ⟨F.1, F.2.1, F.2.2.1, F.2.2.2.1, F.2.2.2.2.1⟩ (hM H.size) cw ⟨gq_blindZ hst, va_recv hK hP hci hb0, gq_preZ hst hZ hP hK hD hS hFc⟩ rfl hn hl.1 rfl (lv_room hroom) hd hf) hS (fun q _ h => hFc q h) hFc (fun u t H1 locs1 ht hvm hw hB hz1 hk1 hS1 => ?_)
  obtain ⟨hP1, hK1, hD1⟩ := hB
  rw [ht] at hP1
  exact kk u hw H1 locs1 ls hP1 (hD1.weaken (fun k q _ h => hFc q.1 h)) hK hS1 hl
theorem uxz_callii (F : gF p s m args meth c cc own nL Ts A) (hst : gzS Z) (hZ : Z A s s.heap) {y : MethodName} {bytes : ByteArray} {maxL index nA fr lo : Nat} {ret : Option FieldType} {wy : List Cond} {b : Nat} {As : List Value}  {S : Type} {post : Int32 → S → Prop} {postT : S → Prop} {x : Nat} {w1 : S → va_W} (hM : ∀ sz : Nat, KxiZ Z l y wy fr lo D (.ref b :: As) ws tys sz post postT x w1) {C : String} {ci : Nat} {T : u_T} {N : Nat} {fs : List Value} (cw : CallW R s args own C index y bytes maxL ret wy (gR fr 0 0 lo) 0 0 nA) (hci : vwCl[ci]? = some (C, T, N)) (q0 : Nat) (hb0 : ws[q0]? = some (b, .inr (ci, fs))) (hn : As.length = nA) (hroom : (st.map fun v => v.category).sum ≤ 8) (hf : k ≤ R.cells ∧ n ≤ R.slots) (hd : decode cc pc = .ok (.invokevirtual index, 3)) (hex : c.exceptionTable.toList = []) {wo : va_W} {sz : Nat} {post2 : Int32 → S → Prop} {postT2 : S → Prop} (hA : A = va_A wo sz) (hQ : Q = gx_MQ below (gx_Qi post2 postT2 x (gq_B D (va_A wo sz) w1 (fun _ => tys)) (va_A wo sz)) args s k n (va_A wo sz)) (kt : ∀ u : S, postT u → postT2 u) (kk : ∀ (r : Int32) (u : S), post r u → gG p l e R s m args below meth c D A nL Q k n (w1 u) tys lv (pc + 3) (.int r :: st)) : gG p l e R s m args below meth c D A nL Q k n ws tys lv pc (As.reverse ++ .ref b :: st) := by
  intro H locs ls hP hD hK hS hl T₀ hT₀ X
  have hFc := va_free (wc := ws) hD hS F.2.2.2.2.2.1 (List.range ws.length) (gu_rm ws)
  have hD0 : va_D (fun _ => True) ws := hD.weaken (fun _ _ _ _ => trivial)
  obtain ⟨oc, st₀, t, T', L, h0, hL, ⟨hq, hz, hk⟩, e1, e2, hX, hret, hthr⟩ := gx_runV (As := As) (rest := st) (g := F0 m pc ls (As.reverse ++ .ref b :: st)) ⟨F.1, F.2.1, F.2.2.1, F.2.2.2.1, F.2.2.2.2.1⟩ (hM H.size) cw ⟨gq_blindZ hst, va_recv hK hP hci hb0, gq_preZ hst hZ hP hK hD hS hFc⟩ rfl hn hl.1 rfl (lv_room hroom) hd hf T₀ hT₀ X
  rw [h0] at hz hk
  have hz1 : H.size ≤ T'.heap.size := by rw [e1]; exact hz
  have hk1 : ∀ q : Nat, q < H.size → ¬ va_A ws H.size q → T'.heap[q]? = H[q]? := fun q a1 a2 => by rw [e1]; exact hk q a1 a2
  have hS1 : va_S A s.heap T'.heap (locs ++ L) := ⟨Nat.le_trans hS.1 hz1, fun q a1 a2 => by rw [hk1 q (Nat.lt_of_lt_of_le a1 hS.1) (fun z => a2 (hFc q z))]; exact hS.2.1 q a1 a2, fun q hq => by
    rcases List.mem_append.mp hq with h | h
    · exact hS.2.2 q h
    · exact hFc _ (hL q h)⟩
  rcases hq with ⟨r, u, hv, hp, hB⟩ | ⟨u, hv, hp, hB⟩
  · subst hv
    have X' := hX (Or.inl ⟨_, rfl⟩)
    obtain ⟨hP1, -, hD1⟩ := hB
    rw [← e1] at hP1
    obtain ⟨t2, a1, b1⟩ := kk r u hp T'.heap (locs ++ L) ls hP1 (hD1.weaken (fun k q _ h => hFc q.1 h)) hK hS1 hl T' rfl X'
    exact ⟨t2, (hret _ rfl).trans a1, b1⟩
  · subst hv
    have X' := hX (Or.inr ⟨_, rfl⟩)
    obtain ⟨hP1, -, hD1⟩ := hB
    rw [← e1] at hP1
    subst hA
    subst hQ
    obtain ⟨hwalk, hrun, hended, hWU, hsame⟩ := X'.leaveThrown x (g := F0 m pc ls st) rfl rfl rfl (by rw [hex]; intro y hy; cases hy) F.2.2.2.2.2.2
    have hh : (T'.setFrames (.throwing x :: below)).heap = T'.heap := rfl
    exact ⟨_, (hthr _ rfl).trans hwalk, .threw x, hrun, hended, ⟨Or.inr ⟨u, rfl, kt u hp, by rw [hh]; exact hP1, va_K.moved hWU.alike hK, hD1.weaken (fun k q _ h => hFc q.1 h)⟩, hS1.F hh⟩, locs ++ L, ⟨hWU, hsame⟩, hS1.2.2⟩
theorem uxz_calliv (F : gF p s m args meth c cc own nL Ts A) (hst : gzS Z) (hZ : Z A s s.heap) {y : MethodName} {bytes : ByteArray} {maxL index nA fr lo : Nat} {ret : Option FieldType} {wy : List Cond} {b : Nat} {As : List Value}  {S : Type} {post : Int32 → S → Prop} {postT : S → Prop} {x : Nat} {w1 : S → va_W} (hM : ∀ sz : Nat, KxiZ Z l y wy fr lo D (.ref b :: As) ws tys sz post postT x w1) {C : String} {ci : Nat} {T : u_T} {N : Nat} {fs : List Value} (cw : CallW R s args own C index y bytes maxL ret wy (gR fr 0 0 lo) 0 0 nA) (hci : vwCl[ci]? = some (C, T, N)) (q0 : Nat) (hb0 : ws[q0]? = some (b, .inr (ci, fs))) (hn : As.length = nA) (hroom : (st.map fun v => v.category).sum ≤ 8) (hf : k ≤ R.cells ∧ n ≤ R.slots) (hd : decode cc pc = .ok (.invokevirtual index, 3)) (hex : c.exceptionTable.toList = []) {wo : va_W} {sz : Nat} {post2 : S → Prop} {postT2 : S → Prop} (hA : A = va_A wo sz) (hQ : Q = gx_MQ below (gx_Qv post2 postT2 x (gq_B D (va_A wo sz) w1 (fun _ => tys)) (va_A wo sz)) args s k n (va_A wo sz)) (kt : ∀ u : S, postT u → postT2 u) (kk : ∀ (r : Int32) (u : S), post r u → gG p l e R s m args below meth c D A nL Q k n (w1 u) tys lv (pc + 3) (.int r :: st)) : gG p l e R s m args below meth c D A nL Q k n ws tys lv pc (As.reverse ++ .ref b :: st) := by
  intro H locs ls hP hD hK hS hl T₀ hT₀ X
  have hFc := va_free (wc := ws) hD hS F.2.2.2.2.2.1 (List.range ws.length) (gu_rm ws)
  have hD0 : va_D (fun _ => True) ws := hD.weaken (fun _ _ _ _ => trivial)
  obtain ⟨oc, st₀, t, T', L, h0, hL, ⟨hq, hz, hk⟩, e1, e2, hX, hret, hthr⟩ := gx_runV (As := As) (rest := st) (g := F0 m pc ls (As.reverse ++ .ref b :: st)) ⟨F.1, F.2.1, F.2.2.1, F.2.2.2.1, F.2.2.2.2.1⟩ (hM H.size) cw ⟨gq_blindZ hst, va_recv hK hP hci hb0, gq_preZ hst hZ hP hK hD hS hFc⟩ rfl hn hl.1 rfl (lv_room hroom) hd hf T₀ hT₀ X
  rw [h0] at hz hk
  have hz1 : H.size ≤ T'.heap.size := by rw [e1]; exact hz
  have hk1 : ∀ q : Nat, q < H.size → ¬ va_A ws H.size q → T'.heap[q]? = H[q]? := fun q a1 a2 => by rw [e1]; exact hk q a1 a2
  have hS1 : va_S A s.heap T'.heap (locs ++ L) := ⟨Nat.le_trans hS.1 hz1, fun q a1 a2 => by rw [hk1 q (Nat.lt_of_lt_of_le a1 hS.1) (fun z => a2 (hFc q z))]; exact hS.2.1 q a1 a2, fun q hq => by
    rcases List.mem_append.mp hq with h | h
    · exact hS.2.2 q h
    · exact hFc _ (hL q h)⟩
  rcases hq with ⟨r, u, hv, hp, hB⟩ | ⟨u, hv, hp, hB⟩
  · subst hv
    have X' := hX (Or.inl ⟨_, rfl⟩)
    obtain ⟨hP1, -, hD1⟩ := hB
    rw [← e1] at hP1
    obtain ⟨t2, a1, b1⟩ := kk r u hp T'.heap (locs ++ L) ls hP1 (hD1.weaken (fun k q _ h => hFc q.1 h)) hK hS1 hl T' rfl X'
    exact ⟨t2, (hret _ rfl).trans a1, b1⟩
  · subst hv
    have X' := hX (Or.inr ⟨_, rfl⟩)
    obtain ⟨hP1, -, hD1⟩ := hB
    rw [← e1] at hP1
    subst hA
    subst hQ
    obtain ⟨hwalk, hrun, hended, hWU, hsame⟩ := X'.leaveThrown x (g := F0 m pc ls st) rfl rfl rfl (by rw [hex]; intro y hy; cases hy) F.2.2.2.2.2.2
    have hh : (T'.setFrames (.throwing x :: below)).heap = T'.heap := rfl
    exact ⟨_, (hthr _ rfl).trans hwalk, .threw x, hrun, hended, ⟨Or.inr ⟨u, rfl, kt u hp, by rw [hh]; exact hP1, va_K.moved hWU.alike hK, hD1.weaken (fun k q _ h => hFc q.1 h)⟩, hS1.F hh⟩, locs ++ L, ⟨hWU, hsame⟩, hS1.2.2⟩
theorem uxz_catchi (F : gF p s m args meth c cc own nL Ts A) (hst : gzS Z) (hZ : Z A s s.heap) {y : MethodName} {bytes : ByteArray} {maxL index nA fr lo : Nat} {ret : Option FieldType} {wy : List Cond} {b : Nat} {As : List Value}  {S : Type} {post : Int32 → S → Prop} {postT : S → Prop} {x : Nat} {w1 : S → va_W} (hM : ∀ sz : Nat, KxiZ Z l y wy fr lo D (.ref b :: As) ws tys sz post postT x w1) {C : String} {ci : Nat} {T : u_T} {N : Nat} {fs : List Value} (cw : CallW R s args own C index y bytes maxL ret wy (gR fr 0 0 lo) 0 0 nA) (hci : vwCl[ci]? = some (C, T, N)) (q0 : Nat) (hb0 : ws[q0]? = some (b, .inr (ci, fs))) (hn : As.length = nA) (hroom : (st.map fun v => v.category).sum ≤ 8) (hf : k ≤ R.cells ∧ n ≤ R.slots) (hd : decode cc pc = .ok (.invokevirtual index, 3)) {r0 : ExceptionTableEntry} (htab : c.exceptionTable.toList = [r0]) (hcov : covers r0 pc = true) (hc0 : r0.catchType ≠ 0) {cn : String} (hlink : (Cond.classLink own r0.catchType cn).before args s = true) {cj : Nat} {T2 : u_T} {N2 : Nat} {fs2 : S → List Value} (hcj : vwCl[cj]? = some (cn, T2, N2)) (q2 : Nat) (hx2 : ∀ u : S, (w1 u)[q2]? = some (x, .inr (cj, fs2 u))) (hpc : Nat) (hpc2 : r0.handlerPc = hpc) (kk : ∀ (r : Int32) (u : S), post r u → gG p l e R s m args below meth c D A nL Q k n (w1 u) tys lv (pc + 3) (.int r :: st)) (kt : ∀ u : S, postT u → gG p l e R s m args below meth c D A nL Q k n (w1 u) tys lv hpc [.ref x]) : gG p l e R s m args below meth c D A nL Q k n ws tys lv pc (As.reverse ++ .ref b :: st) := by
  intro H locs ls hP hD hK hS hl T₀ hT₀ X
  have hFc := va_free (wc := ws) hD hS F.2.2.2.2.2.1 (List.range ws.length) (gu_rm ws)
  have hD0 : va_D (fun _ => True) ws := hD.weaken (fun _ _ _ _ => trivial)
  obtain ⟨oc, st₀, t, T', L, h0, hL, ⟨hq, hz, hk⟩, e1, e2, hX, hret, hthr⟩ := gx_runV (As := As) (rest := st) (g := F0 m pc ls (As.reverse ++ .ref b :: st)) ⟨F.1, F.2.1, F.2.2.1, F.2.2.2.1, F.2.2.2.2.1⟩ (hM H.size) cw ⟨gq_blindZ hst, va_recv hK hP hci hb0, gq_preZ hst hZ hP hK hD hS hFc⟩ rfl hn hl.1 rfl (lv_room hroom) hd hf T₀ hT₀ X
  rw [h0] at hz hk
  have hz1 : H.size ≤ T'.heap.size := by rw [e1]; exact hz
  have hk1 : ∀ q : Nat, q < H.size → ¬ va_A ws H.size q → T'.heap[q]? = H[q]? := fun q a1 a2 => by rw [e1]; exact hk q a1 a2
  have hS1 : va_S A s.heap T'.heap (locs ++ L) := ⟨Nat.le_trans hS.1 hz1, fun q a1 a2 => by rw [hk1 q (Nat.lt_of_lt_of_le a1 hS.1) (fun z => a2 (hFc q z))]; exact hS.2.1 q a1 a2, fun q hq => by
    rcases List.mem_append.mp hq with h | h
    · exact hS.2.2 q h
    · exact hFc _ (hL q h)⟩
  rcases hq with ⟨r, u, hv, hp, hB⟩ | ⟨u, hv, hp, hB⟩
  · subst hv
    have X' := hX (Or.inl ⟨_, rfl⟩)
    obtain ⟨hP1, -, hD1⟩ := hB
    rw [← e1] at hP1
    obtain ⟨t2, a1, b1⟩ := kk r u hp T'.heap (locs ++ L) ls hP1 (hD1.weaken (fun k q _ h => hFc q.1 h)) hK hS1 hl T' rfl X'
    exact ⟨t2, (hret _ rfl).trans a1, b1⟩
  · subst hv
    have X' := hX (Or.inr ⟨_, rfl⟩)
    obtain ⟨hP1, -, hD1⟩ := hB
    rw [← e1] at hP1
    have hD2 := hD1.weaken (fun k q _ h => hFc q.1 h)
    obtain ⟨cell, h1, h2, h3⟩ := va_recv hK hP1 hcj (hx2 u)
    obtain ⟨vm', X2, st2⟩ := gt_goes X' (g := F0 m pc ls st) rfl h1 h2 htab hcov hc0 F.2.2.2.1 hlink h3
    subst hpc2
    obtain ⟨t2, a1, b1⟩ := kt u hp (T'.setVm vm').heap (locs ++ L) ls hP1 hD2 hK hS1 hl (T'.setVm vm') rfl X2
    exact ⟨t2, (hthr _ rfl).trans (st2 t2 a1), b1⟩
theorem uxz_callvi (F : gF p s m args meth c cc own nL Ts A) (hst : gzS Z) (hZ : Z A s s.heap) {y : MethodName} {bytes : ByteArray} {maxL index nA fr lo : Nat} {ret : Option FieldType} {wy : List Cond} {b : Nat} {As : List Value}  {S : Type} {post : S → Prop} {postT : S → Prop} {x : Nat} {w1 : S → va_W} (hM : ∀ sz : Nat, KxvZ Z l y wy fr lo D (.ref b :: As) ws tys sz post postT x w1) {C : String} {ci : Nat} {T : u_T} {N : Nat} {fs : List Value} (cw : CallW R s args own C index y bytes maxL ret wy (gR fr 0 0 lo) 0 0 nA) (hci : vwCl[ci]? = some (C, T, N)) (q0 : Nat) (hb0 : ws[q0]? = some (b, .inr (ci, fs))) (hn : As.length = nA) (hroom : (st.map fun v => v.category).sum ≤ 8) (hf : k ≤ R.cells ∧ n ≤ R.slots) (hd : decode cc pc = .ok (.invokevirtual index, 3)) (hex : c.exceptionTable.toList = []) {wo : va_W} {sz : Nat} {post2 : Int32 → S → Prop} {postT2 : S → Prop} (hA : A = va_A wo sz) (hQ : Q = gx_MQ below (gx_Qi post2 postT2 x (gq_B D (va_A wo sz) w1 (fun _ => tys)) (va_A wo sz)) args s k n (va_A wo sz)) (kt : ∀ u : S, postT u → postT2 u) (kk : ∀ (u : S), post u → gG p l e R s m args below meth c D A nL Q k n (w1 u) tys lv (pc + 3) st) : gG p l e R s m args below meth c D A nL Q k n ws tys lv pc (As.reverse ++ .ref b :: st) := by
  intro H locs ls hP hD hK hS hl T₀ hT₀ X
  have hFc := va_free (wc := ws) hD hS F.2.2.2.2.2.1 (List.range ws.length) (gu_rm ws)
  have hD0 : va_D (fun _ => True) ws := hD.weaken (fun _ _ _ _ => trivial)
  obtain ⟨oc, st₀, t, T', L, h0, hL, ⟨hq, hz, hk⟩, e1, e2, hX, hret, hthr⟩ := gx_runV (As := As) (rest := st) (g := F0 m pc ls (As.reverse ++ .ref b :: st)) ⟨F.1, F.2.1, F.2.2.1, F.2.2.2.1, F.2.2.2.2.1⟩ (hM H.size) cw ⟨gq_blindZ hst, va_recv hK hP hci hb0, gq_preZ hst hZ hP hK hD hS hFc⟩ rfl hn hl.1 rfl (lv_room hroom) hd hf T₀ hT₀ X
  rw [h0] at hz hk
  have hz1 : H.size ≤ T'.heap.size := by rw [e1]; exact hz
  have hk1 : ∀ q : Nat, q < H.size → ¬ va_A ws H.size q → T'.heap[q]? = H[q]? := fun q a1 a2 => by rw [e1]; exact hk q a1 a2
  have hS1 : va_S A s.heap T'.heap (locs ++ L) := ⟨Nat.le_trans hS.1 hz1, fun q a1 a2 => by rw [hk1 q (Nat.lt_of_lt_of_le a1 hS.1) (fun z => a2 (hFc q z))]; exact hS.2.1 q a1 a2, fun q hq => by
    rcases List.mem_append.mp hq with h | h
    · exact hS.2.2 q h
    · exact hFc _ (hL q h)⟩
  rcases hq with ⟨u, hv, hp, hB⟩ | ⟨u, hv, hp, hB⟩
  · subst hv
    have X' := hX (Or.inl ⟨_, rfl⟩)
    obtain ⟨hP1, -, hD1⟩ := hB
    rw [← e1] at hP1
    obtain ⟨t2, a1, b1⟩ := kk u hp T'.heap (locs ++ L) ls hP1 (hD1.weaken (fun k q _ h => hFc q.1 h)) hK hS1 hl T' rfl X'
    exact ⟨t2, (hret _ rfl).trans a1, b1⟩
  · subst hv
    have X' := hX (Or.inr ⟨_, rfl⟩)
    obtain ⟨hP1, -, hD1⟩ := hB
    rw [← e1] at hP1
    subst hA
    subst hQ
    obtain ⟨hwalk, hrun, hended, hWU, hsame⟩ := X'.leaveThrown x (g := F0 m pc ls st) rfl rfl rfl (by rw [hex]; intro y hy; cases hy) F.2.2.2.2.2.2
    have hh : (T'.setFrames (.throwing x :: below)).heap = T'.heap := rfl
    exact ⟨_, (hthr _ rfl).trans hwalk, .threw x, hrun, hended, ⟨Or.inr ⟨u, rfl, kt u hp, by rw [hh]; exact hP1, va_K.moved hWU.alike hK, hD1.weaken (fun k q _ h => hFc q.1 h)⟩, hS1.F hh⟩, locs ++ L, ⟨hWU, hsame⟩, hS1.2.2⟩
theorem uxz_callvv (F : gF p s m args meth c cc own nL Ts A) (hst : gzS Z) (hZ : Z A s s.heap) {y : MethodName} {bytes : ByteArray} {maxL index nA fr lo : Nat} {ret : Option FieldType} {wy : List Cond} {b : Nat} {As : List Value}  {S : Type} {post : S → Prop} {postT : S → Prop} {x : Nat} {w1 : S → va_W} (hM : ∀ sz : Nat, KxvZ Z l y wy fr lo D (.ref b :: As) ws tys sz post postT x w1) {C : String} {ci : Nat} {T : u_T} {N : Nat} {fs : List Value} (cw : CallW R s args own C index y bytes maxL ret wy (gR fr 0 0 lo) 0 0 nA) (hci : vwCl[ci]? = some (C, T, N)) (q0 : Nat) (hb0 : ws[q0]? = some (b, .inr (ci, fs))) (hn : As.length = nA) (hroom : (st.map fun v => v.category).sum ≤ 8) (hf : k ≤ R.cells ∧ n ≤ R.slots) (hd : decode cc pc = .ok (.invokevirtual index, 3)) (hex : c.exceptionTable.toList = []) {wo : va_W} {sz : Nat} {post2 : S → Prop} {postT2 : S → Prop} (hA : A = va_A wo sz) (hQ : Q = gx_MQ below (gx_Qv post2 postT2 x (gq_B D (va_A wo sz) w1 (fun _ => tys)) (va_A wo sz)) args s k n (va_A wo sz)) (kt : ∀ u : S, postT u → postT2 u) (kk : ∀ (u : S), post u → gG p l e R s m args below meth c D A nL Q k n (w1 u) tys lv (pc + 3) st) : gG p l e R s m args below meth c D A nL Q k n ws tys lv pc (As.reverse ++ .ref b :: st) := by
  intro H locs ls hP hD hK hS hl T₀ hT₀ X
  have hFc := va_free (wc := ws) hD hS F.2.2.2.2.2.1 (List.range ws.length) (gu_rm ws)
  have hD0 : va_D (fun _ => True) ws := hD.weaken (fun _ _ _ _ => trivial)
  obtain ⟨oc, st₀, t, T', L, h0, hL, ⟨hq, hz, hk⟩, e1, e2, hX, hret, hthr⟩ := gx_runV (As := As) (rest := st) (g := F0 m pc ls (As.reverse ++ .ref b :: st)) ⟨F.1, F.2.1, F.2.2.1, F.2.2.2.1, F.2.2.2.2.1⟩ (hM H.size) cw ⟨gq_blindZ hst, va_recv hK hP hci hb0, gq_preZ hst hZ hP hK hD hS hFc⟩ rfl hn hl.1 rfl (lv_room hroom) hd hf T₀ hT₀ X
  rw [h0] at hz hk
  have hz1 : H.size ≤ T'.heap.size := by rw [e1]; exact hz
  have hk1 : ∀ q : Nat, q < H.size → ¬ va_A ws H.size q → T'.heap[q]? = H[q]? := fun q a1 a2 => by rw [e1]; exact hk q a1 a2
  have hS1 : va_S A s.heap T'.heap (locs ++ L) := ⟨Nat.le_trans hS.1 hz1, fun q a1 a2 => by rw [hk1 q (Nat.lt_of_lt_of_le a1 hS.1) (fun z => a2 (hFc q z))]; exact hS.2.1 q a1 a2, fun q hq => by
    rcases List.mem_append.mp hq with h | h
    · exact hS.2.2 q h
    · exact hFc _ (hL q h)⟩
  rcases hq with ⟨u, hv, hp, hB⟩ | ⟨u, hv, hp, hB⟩
  · subst hv
    have X' := hX (Or.inl ⟨_, rfl⟩)
    obtain ⟨hP1, -, hD1⟩ := hB
    rw [← e1] at hP1
    obtain ⟨t2, a1, b1⟩ := kk u hp T'.heap (locs ++ L) ls hP1 (hD1.weaken (fun k q _ h => hFc q.1 h)) hK hS1 hl T' rfl X'
    exact ⟨t2, (hret _ rfl).trans a1, b1⟩
  · subst hv
    have X' := hX (Or.inr ⟨_, rfl⟩)
    obtain ⟨hP1, -, hD1⟩ := hB
    rw [← e1] at hP1
    subst hA
    subst hQ
    obtain ⟨hwalk, hrun, hended, hWU, hsame⟩ := X'.leaveThrown x (g := F0 m pc ls st) rfl rfl rfl (by rw [hex]; intro y hy; cases hy) F.2.2.2.2.2.2
    have hh : (T'.setFrames (.throwing x :: below)).heap = T'.heap := rfl
    exact ⟨_, (hthr _ rfl).trans hwalk, .threw x, hrun, hended, ⟨Or.inr ⟨u, rfl, kt u hp, by rw [hh]; exact hP1, va_K.moved hWU.alike hK, hD1.weaken (fun k q _ h => hFc q.1 h)⟩, hS1.F hh⟩, locs ++ L, ⟨hWU, hsame⟩, hS1.2.2⟩
theorem uxz_catchv (F : gF p s m args meth c cc own nL Ts A) (hst : gzS Z) (hZ : Z A s s.heap) {y : MethodName} {bytes : ByteArray} {maxL index nA fr lo : Nat} {ret : Option FieldType} {wy : List Cond} {b : Nat} {As : List Value}  {S : Type} {post : S → Prop} {postT : S → Prop} {x : Nat} {w1 : S → va_W} (hM : ∀ sz : Nat, KxvZ Z l y wy fr lo D (.ref b :: As) ws tys sz post postT x w1) {C : String} {ci : Nat} {T : u_T} {N : Nat} {fs : List Value} (cw : CallW R s args own C index y bytes maxL ret wy (gR fr 0 0 lo) 0 0 nA) (hci : vwCl[ci]? = some (C, T, N)) (q0 : Nat) (hb0 : ws[q0]? = some (b, .inr (ci, fs))) (hn : As.length = nA) (hroom : (st.map fun v => v.category).sum ≤ 8) (hf : k ≤ R.cells ∧ n ≤ R.slots) (hd : decode cc pc = .ok (.invokevirtual index, 3)) {r0 : ExceptionTableEntry} (htab : c.exceptionTable.toList = [r0]) (hcov : covers r0 pc = true) (hc0 : r0.catchType ≠ 0) {cn : String} (hlink : (Cond.classLink own r0.catchType cn).before args s = true) {cj : Nat} {T2 : u_T} {N2 : Nat} {fs2 : S → List Value} (hcj : vwCl[cj]? = some (cn, T2, N2)) (q2 : Nat) (hx2 : ∀ u : S, (w1 u)[q2]? = some (x, .inr (cj, fs2 u))) (hpc : Nat) (hpc2 : r0.handlerPc = hpc) (kk : ∀ (u : S), post u → gG p l e R s m args below meth c D A nL Q k n (w1 u) tys lv (pc + 3) st) (kt : ∀ u : S, postT u → gG p l e R s m args below meth c D A nL Q k n (w1 u) tys lv hpc [.ref x]) : gG p l e R s m args below meth c D A nL Q k n ws tys lv pc (As.reverse ++ .ref b :: st) := by
  intro H locs ls hP hD hK hS hl T₀ hT₀ X
  have hFc := va_free (wc := ws) hD hS F.2.2.2.2.2.1 (List.range ws.length) (gu_rm ws)
  have hD0 : va_D (fun _ => True) ws := hD.weaken (fun _ _ _ _ => trivial)
  obtain ⟨oc, st₀, t, T', L, h0, hL, ⟨hq, hz, hk⟩, e1, e2, hX, hret, hthr⟩ := gx_runV (As := As) (rest := st) (g := F0 m pc ls (As.reverse ++ .ref b :: st)) ⟨F.1, F.2.1, F.2.2.1, F.2.2.2.1, F.2.2.2.2.1⟩ (hM H.size) cw ⟨gq_blindZ hst, va_recv hK hP hci hb0, gq_preZ hst hZ hP hK hD hS hFc⟩ rfl hn hl.1 rfl (lv_room hroom) hd hf T₀ hT₀ X
  rw [h0] at hz hk
  have hz1 : H.size ≤ T'.heap.size := by rw [e1]; exact hz
  have hk1 : ∀ q : Nat, q < H.size → ¬ va_A ws H.size q → T'.heap[q]? = H[q]? := fun q a1 a2 => by rw [e1]; exact hk q a1 a2
  have hS1 : va_S A s.heap T'.heap (locs ++ L) := ⟨Nat.le_trans hS.1 hz1, fun q a1 a2 => by rw [hk1 q (Nat.lt_of_lt_of_le a1 hS.1) (fun z => a2 (hFc q z))]; exact hS.2.1 q a1 a2, fun q hq => by
    rcases List.mem_append.mp hq with h | h
    · exact hS.2.2 q h
    · exact hFc _ (hL q h)⟩
  rcases hq with ⟨u, hv, hp, hB⟩ | ⟨u, hv, hp, hB⟩
  · subst hv
    have X' := hX (Or.inl ⟨_, rfl⟩)
    obtain ⟨hP1, -, hD1⟩ := hB
    rw [← e1] at hP1
    obtain ⟨t2, a1, b1⟩ := kk u hp T'.heap (locs ++ L) ls hP1 (hD1.weaken (fun k q _ h => hFc q.1 h)) hK hS1 hl T' rfl X'
    exact ⟨t2, (hret _ rfl).trans a1, b1⟩
  · subst hv
    have X' := hX (Or.inr ⟨_, rfl⟩)
    obtain ⟨hP1, -, hD1⟩ := hB
    rw [← e1] at hP1
    have hD2 := hD1.weaken (fun k q _ h => hFc q.1 h)
    obtain ⟨cell, h1, h2, h3⟩ := va_recv hK hP1 hcj (hx2 u)
    obtain ⟨vm', X2, st2⟩ := gt_goes X' (g := F0 m pc ls st) rfl h1 h2 htab hcov hc0 F.2.2.2.1 hlink h3
    subst hpc2
    obtain ⟨t2, a1, b1⟩ := kt u hp (T'.setVm vm').heap (locs ++ L) ls hP1 hD2 hK hS1 hl (T'.setVm vm') rfl X2
    exact ⟨t2, (hthr _ rfl).trans (st2 t2 a1), b1⟩
end GYZ
