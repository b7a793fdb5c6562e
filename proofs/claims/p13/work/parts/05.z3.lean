section GTC
variable {p : Program} {l : Launch} {e : Env} {R : Room} {s : State} {m : MethodId} {args : Array Value} {below : List Frame} {meth : Method} {c : Code} {cc : ByteArray} {own : String} {nL : Nat} {Ts : List Cond} {D : va_G} {A : Nat → Prop} {Q : State → Prop} {k n : Nat} {ws ws' : va_W} {tys : List (ClassId × FieldType)} {lv lv' : List (Nat × Value)} {pc : Nat} {st : List Value}
/-- one row of the table, a class that links, an object of that class -/
theorem gt_find {f : JFrame} {a : Addr} {code : Code} {r0 : ExceptionTableEntry} {cT : ClassId} {cell : Cell} (hm : s.vm.method? f.method = some meth) (hc : meth.code = some code) (htab : code.exceptionTable.toList = [r0]) (hx : covers r0 f.pc = true) (h0 : r0.catchType ≠ 0)
    (hl : s.vm.ClassLinks e.platform f.method.cls r0.catchType cT) (hcell : s.heap[a]? = some cell) (hobj : ∀ k, cell.vm ≠ .statics k) (hk : ∃ k, s.vm.classes[cell.cls]? = some k) (hcl : ∃ k, s.vm.classes[cT]? = some k) (hfit : s.vm.assignable cell.cls cT = true)
    (Q : Handler → Pre) (E : CtlPost) (d : Bool) (acts : List Action) : wp (findHandler f a) Q E e d acts s ↔ Q (.found r0.handlerPc) d acts (s.setVm (s.vm.noted f.method.cls r0.catchType (.cls cT))) := by
  rw [W.findHandler_eq hm hc, htab]
  have hx' : (decide (r0.startPc ≤ f.pc) && decide (f.pc < r0.endPc)) = true := hx
  obtain ⟨g1, g2⟩ := (resolveClass_links e.toSetting hl).op (op := VmOp.resolveClass f.method.cls r0.catchType) rfl
  have hal : s.vm.Alike (s.vm.noted f.method.cls r0.catchType (.cls cT)) := (Vm.Alike.refl s.vm).noted _ _ _
  obtain ⟨k1, hk1⟩ := hk
  obtain ⟨k2, hk2⟩ := hcl
  obtain ⟨k3, hk3, -⟩ := hal.2.2 _ _ hk1
  obtain ⟨k4, hk4, -⟩ := hal.2.2 _ _ hk2
  have hfit' : (s.vm.noted f.method.cls r0.catchType (.cls cT)).assignable cell.cls cT = true := by rw [hal.assignable]; exact hfit
  simp [findHandler.go, hx', h0, g1, g2, hcell, hobj, hk3, hk4, hfit', VmOp.dirties, VmOp.acts]
/-- a frame over which an object of the class in its one row is thrown goes on at the handler -/
theorem gt_goes {T : State} {locs : List Loc} {cells slots : Nat} (X : Stand p l e R s m args below meth c T locs cells slots) {g : JFrame} (hg : g.method = m) {a : Addr} {cell : Cell} (hcell : T.heap[a]? = some cell) (hobj : cell.vm.isStatics = false)
    {r0 : ExceptionTableEntry} (htab : c.exceptionTable.toList = [r0]) (hx : covers r0 g.pc = true) (h0 : r0.catchType ≠ 0) {cn : String} (hown : s.vm.findClass own = some m.cls) (hlink : (Cond.classLink own r0.catchType cn).before args s = true) (hcls : s.vm.findClass cn = some cell.cls) :
    ∃ vm', Stand p l e R s m args below meth c (T.setVm vm') locs cells slots ∧ ∀ target, Steps p.tables e below ((T.setVm vm').setTop { g with pc := r0.handlerPc, stack := [.ref a] }) target → Steps p.tables e below ((T.setTop g).pushFrame (.throwing a)) target := by
  subst hg
  have hpl : e.platform.magicAccessors = ({} : Platform).magicAccessors := by rw [X.admits.platform]
  obtain ⟨c', hc', hcl⟩ := Cond.classLink_spec hown hlink e.platform hpl
  cases hcls.symm.trans hc'
  obtain ⟨dk, _, _, kt, hd, _, _, _, _, hkt, _, hopen⟩ := hcl.here
  have hW := X.warmed
  obtain ⟨kt', hkt', -⟩ := hW.alike.2.2 _ _ hkt
  have hself : T.vm.assignable cell.cls cell.cls = true := by
    show T.vm.assignableAux (255 + 1) cell.cls cell.cls = true
    rw [Vm.assignableAux]
    simp
  have hf := gt_find (e := e) (s := (T.setTop g).pushFrame (.throwing a)) (f := g) (a := a) (meth := meth) (code := c) (cell := cell) (r0 := r0) (cT := cell.cls) X.method' X.code htab hx h0 (hW.classLinks hcl) hcell (VmData.ne_statics_of hobj) ⟨kt', hkt'⟩ ⟨kt', hkt'⟩ hself
  refine ⟨T.vm.noted g.method.cls r0.catchType (.cls cell.cls), X.noted (hW.noted hd hopen (State.rightAt_cls hcl)), fun target hrest => ?_⟩
  obtain ⟨hgo, hw⟩ := X.here.throwing (g := g) a
  refine Steps.head hgo hw ?_
  have hone : (stepThrowing e ((T.setTop g).pushFrame (.throwing a)) a (.java g :: T.frames.tail)).Is ((((T.setTop g).pushFrame (.throwing a)).setVm (T.vm.noted g.method.cls r0.catchType (.cls cell.cls))).setFrames (.java { g with pc := r0.handlerPc, stack := [.ref a] } :: T.frames.tail)) [] := by
    simp only [stepThrowing, searchFrame, vmDo]
    generalize hr : Sem.go _ e false [] ((T.setTop g).pushFrame (.throwing a)) = res
    obtain ⟨as, rfl, ha⟩ := Sem.eq_ok_of hr (a := Handler.found r0.handlerPc) (s' := ((T.setTop g).pushFrame (.throwing a)).setVm (T.vm.noted g.method.cls r0.catchType (.cls cell.cls))) (acts' := []) (by
      simp [hf _ _ _ _]; rfl)
    exact ⟨rfl, ha⟩
  rw [stepThread_throwing (frames_entered X.here.top _), hone.1]
  obtain ⟨g₀, hr⟩ := X.frames_eq
  have hq : ((((T.setTop g).pushFrame (.throwing a)).setVm (T.vm.noted g.method.cls r0.catchType (.cls cell.cls))).setFrames (.java { g with pc := r0.handlerPc, stack := [.ref a] } :: T.frames.tail)) = (T.setVm (T.vm.noted g.method.cls r0.catchType (.cls cell.cls))).setTop { g with pc := r0.handlerPc, stack := [.ref a] } := by
    have hr2 : (T.setVm (T.vm.noted g.method.cls r0.catchType (.cls cell.cls))).frames = .java g₀ :: below := hr
    rw [State.setTop_of_frames _ hr2, hr, State.pushFrame, State.setTop_of_frames _ hr, State.setFrames_setFrames]
    show ((T.setVm _).setFrames _).setFrames _ = _
    rw [State.setFrames_setFrames]
    rfl
  rw [hq]
  exact hrest
theorem gt_catch (F : gF p s m args meth c cc own nL Ts A)  {y : MethodName} {bytes : ByteArray} {maxL index nA fr lo mc ms : Nat} {ret : Option FieldType} {wy : List Cond} {b : Nat} {As : List Value} {wc wr : va_W} {tc : List (ClassId × FieldType)} (isC isR isT : List Nat) (hC : isC.map (fun i => ws[i]?) = wc.map some) (hCf : isC.filterMap (fun i => ws[i]?) = wc) (hnC : va_nd isC = true) (hR : isR.map (fun i => ws[i]?) = wr.map some) (hnR : va_nd isR = true) (hdis : ∀ i ∈ isR, i ∉ isC) (hT : isT.filterMap (fun i => tys[i]?) = tc) {x : Nat} {w1 : va_W} {t1 : List (ClassId × FieldType)} (hM : ∀ sz : Nat, Kt l y wy fr lo mc ms D (.ref b :: As) wc tc sz x w1 t1) {C : String} {ci : Nat} {T : u_T} {N : Nat} {fs : List Value} (cw : CallW R s args own C index y bytes maxL ret wy (gR fr mc ms lo) mc ms nA) (hci : vwCl[ci]? = some (C, T, N)) (q0 : Nat) (hb0 : wc[q0]? = some (b, .inr (ci, fs))) (hn : As.length = nA) (hroom : (st.map fun v => v.category).sum ≤ 8) (hf : k + mc ≤ R.cells ∧ n + ms ≤ R.slots) (hd : decode cc pc = .ok (.invokevirtual index, 3))
    {r0 : ExceptionTableEntry} (htab : c.exceptionTable.toList = [r0]) (hcov : covers r0 pc = true) (hc0 : r0.catchType ≠ 0) {cn : String} (hlink : (Cond.classLink own r0.catchType cn).before args s = true) {cj : Nat} {T2 : u_T} {N2 : Nat} {fs2 : List Value} (hcj : vwCl[cj]? = some (cn, T2, N2)) (q2 : Nat) (hx2 : (wr ++ w1)[q2]? = some (x, .inr (cj, fs2))) (hpc : Nat) (hpc2 : r0.handlerPc = hpc) (kk : gG p l e R s m args below meth c D A nL Q (k + mc) (n + ms) (wr ++ w1) tys lv hpc [.ref x]) : gG p l e R s m args below meth c D A nL Q k n ws tys lv pc (As.reverse ++ .ref b :: st) := by
  intro H locs ls hP hD hK hS hl T₀ hT₀ X
  have hPc := hP.sub isC hCf
  have hDc := hD.sub isC hnC hC
  have hKc := hK.sub isT hT
  have hFc := va_free (wc := wc) hD hS F.2.2.2.2.2.1 isC hC
  obtain ⟨x', st₀, t, T', L, h0, X', hL, e1, e2, ⟨⟨hx', hB⟩, hz, hk⟩, hst⟩ := gt_runV (As := As) (rest := st) (g := F0 m pc ls (As.reverse ++ .ref b :: st)) ⟨F.1, F.2.1, F.2.2.1, F.2.2.2.1, F.2.2.2.2.1⟩ (hM H.size) cw ⟨gq_blind, va_recv hKc hPc hci hb0, gq_pre hPc hKc hDc⟩ rfl hn hl.1 rfl (lv_room hroom) hd hf T₀ hT₀ X
  cases hx'
  rw [h0] at hz hk
  obtain ⟨hP1, hK1, hD1⟩ := hB
  rw [← e1] at hP1 hz
  have hk1 : ∀ q : Nat, q < H.size → ¬ va_A wc H.size q → T'.heap[q]? = H[q]? := fun q a1 a2 => by rw [e1]; exact hk q a1 a2
  obtain ⟨hP2, hD2⟩ := va_join hP hD isC isR hC hR hnR hdis hk1 hFc hP1 hD1
  have hS1 : va_S A s.heap T'.heap (locs ++ L) := ⟨Nat.le_trans hS.1 hz, fun q a1 a2 => by rw [hk1 q (Nat.lt_of_lt_of_le a1 hS.1) (fun z => a2 (hFc q z))]; exact hS.2.1 q a1 a2, fun q hq => by
    rcases List.mem_append.mp hq with h | h
    · exact hS.2.2 q h
    · exact hFc _ (hL q h)⟩
  obtain ⟨cell, h1, h2, h3⟩ := va_recv hK hP2 hcj hx2
  obtain ⟨vm', X2, st2⟩ := gt_goes X' (g := F0 m pc ls st) rfl h1 h2 htab hcov hc0 F.2.2.2.1 hlink h3
  subst hpc2
  obtain ⟨t2, a1, b1⟩ := kk (T'.setVm vm').heap (locs ++ L) ls hP2 hD2 hK hS1 hl (T'.setVm vm') rfl X2
  exact ⟨t2, hst.trans (st2 t2 a1), b1⟩
theorem gw_ofWx {hh : List (Nat × Nat × Nat × Nat)} {y : MethodName} {wy wy' : List Cond} {rm : Room} {av : List Value} {wc : va_W} {tc : List (ClassId × FieldType)} {sz : Nat} {Qc : Array Value → State → Outcome → State → Prop} {mc ms : Nat} {maxL : Nat} {ret : Option FieldType} (hy : plainName y.cls = true) (hw : wy = Cond.codeWith y cc maxL ret hh :: wy') (hav : (lg_sl av).length ≤ maxL) (hlv : lv_args 0 av = lv) (body : ∀ (p : Program) (e : Env) (s : State) (m : MethodId) (args : Array Value) (below : List Frame) (meth : Method) (c : Code) (A : Nat → Prop) (Q : State → Prop), A = va_A wc sz → Q = MQ below Qc args s mc ms (va_A wc sz) → gF p s m args meth c cc y.cls maxL wy A → meth.sig.returnType = ret → meth.name = y.name → (c.exceptionTable.toList.map fun h => (h.startPc, h.endPc, h.handlerPc, h.catchType)) = hh → gG p l e rm s m args below meth c D A maxL Q 0 0 wc tc lv 0 []) : Met l y wy rm (va_Pc av (gq_U D wc tc sz)) Qc mc ms (va_A wc sz) := by
  refine va_MetW (hh := hh) (cc := cc) (maxL := maxL) (ret := ret) hy hw ?_
  intro p e s m args below meth c s₁ B hml hv
  obtain ⟨rfl, hsz, hP, hK, hD0⟩ := hv
  obtain ⟨m9, meth9, c9, hn9, h91, h92, -, -, h95, -⟩ := Cond.codeWith_spec (atoms_spec (ws := wy) B.pre _ (by rw [hw]; exact List.mem_cons_self))
  cases B.named.symm.trans hn9
  cases B.method.symm.trans h91
  cases (Stand.of_body B).code.symm.trans h92
  have hl := lv_entry av (n := maxL) hav
  rw [lg_entry_eq]
  generalize (lg_sl av ++ List.replicate (maxL - (lg_sl av).length) Slot.unset).toArray = ls at hl ⊢
  rw [hlv] at hl
  exact body p e s m _ below meth c _ _ rfl rfl ⟨B.exec, B.bytes, hml, findClass_of_methodNamed B.named, atoms_spec (ws := wy) B.pre, fun q h => Or.inr (hsz ▸ h), B.notSynchronized⟩ B.returns (name_of_methodNamed B.named B.method).1 h95 s.heap [] ls hP (hD0.self (sz := sz)) hK va_S.rf hl
theorem gt_row {t : List ExceptionTableEntry} {a b d f : Nat} (h : (t.map fun h => (h.startPc, h.endPc, h.handlerPc, h.catchType)) = [(a, b, d, f)]) : ∃ r0 : ExceptionTableEntry, t = [r0] ∧ r0.startPc = a ∧ r0.endPc = b ∧ r0.handlerPc = d ∧ r0.catchType = f := by
  match t, h with
  | [r0], h =>
    simp only [List.map_cons, List.map_nil, List.cons.injEq, Prod.mk.injEq, and_true] at h
    exact ⟨r0, rfl, h.1, h.2.1, h.2.2.1, h.2.2.2⟩
end GTC
