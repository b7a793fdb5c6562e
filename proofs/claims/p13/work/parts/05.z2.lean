/-! what is thrown: a contract whose end is a throw of one object, the rules of a throw, of a call that throws through, of a call whose throw is caught -/
def gt_end (first : State) (o : Outcome) (t : State) (L : List Loc) (k n : Nat) : Prop := (∃ x, o = .threw x) ∧ first.WarmedH t.vm ∧ first.sameButNew ({ t with vm := first.vm } : State) L k n
def gt_Met (l : Launch) (y : MethodName) (ws : List Cond) (rm : Room) (Pc : Array Value → State → Prop) (Qc : Array Value → State → Outcome → State → Prop) (mc ms : Nat) (free : Addr → Prop) : Prop :=
  MetFree l y (headSpec ws rm) Pc (fun _ _ _ _ _ => True) (fun a st o t => Qc a st o t ∧ ∃ L, gt_end st o t L mc ms ∧ ∀ q ∈ L, free q.base)
def gt_MQ (below : List Frame) (Qc : Array Value → State → Outcome → State → Prop) (a : Array Value) (s : State) (mc ms : Nat) (free : Addr → Prop) : State → Prop := fun t =>
  ∃ o, t.status = .running ∧ Ended t below o ∧ Qc a s o t ∧ ∃ L, gt_end s o t L mc ms ∧ ∀ q ∈ L, free q.base
def gt_Q (x : Nat) (B : State → Prop) (A : Nat → Prop) : Array Value → State → Outcome → State → Prop := fun _ st oc t => (oc = .threw x ∧ B t) ∧ va_F A st t
def Kt (l : Launch) (y : MethodName) (wy : List Cond) (fr lo mc ms : Nat) (D : va_G) (av : List Value) (wc : va_W) (tc : List (ClassId × FieldType)) (sz : Nat) (x : Nat) (w1 : va_W) (t1 : List (ClassId × FieldType)) : Prop := gt_Met l y wy (gR fr mc ms lo) (va_Pc av (gq_U D wc tc sz)) (gt_Q x (gq_B (S := Unit) D (va_A wc sz) (fun _ => w1) (fun _ => t1) ()) (va_A wc sz)) mc ms (va_A wc sz)
section GT
variable {p : Program} {l : Launch} {e : Env} {R : Room} {s : State} {m : MethodId} {args : Array Value} {below : List Frame} {meth : Method} {c : Code} {cc : ByteArray} {own : String} {nL : Nat} {Ts : List Cond} {D : va_G} {A : Nat → Prop} {Q : State → Prop} {k n : Nat} {ws ws' : va_W} {tys : List (ClassId × FieldType)} {lv lv' : List (Nat × Value)} {pc : Nat} {st : List Value}
theorem gt_ofW {y : MethodName} {wy wy' : List Cond} {rm : Room} {av : List Value} {wc : va_W} {tc : List (ClassId × FieldType)} {sz : Nat} {Qc : Array Value → State → Outcome → State → Prop} {mc ms : Nat} {maxL : Nat} {ret : Option FieldType} (hy : plainName y.cls = true) (hw : wy = Cond.code y cc maxL ret :: wy') (hav : (lg_sl av).length ≤ maxL) (hlv : lv_args 0 av = lv) (body : ∀ (p : Program) (e : Env) (s : State) (m : MethodId) (args : Array Value) (below : List Frame) (meth : Method) (c : Code) (A : Nat → Prop) (Q : State → Prop), A = va_A wc sz → Q = gt_MQ below Qc args s mc ms (va_A wc sz) → gF p s m args meth c cc y.cls maxL wy A → c.exceptionTable.toList = [] → gG p l e rm s m args below meth c D A maxL Q 0 0 wc tc lv 0 []) : gt_Met l y wy rm (va_Pc av (gq_U D wc tc sz)) Qc mc ms (va_A wc sz) := by
  refine MetFree.of_bodyS (code := cc) (maxLocals := maxL) (ret := ret) hy ?_ ?_
  · intro args s m h hn
    obtain ⟨meth, c, h1, h2, h3, h4, h5, h6, -, -⟩ := Cond.code_spec hn (atoms_spec (ws := wy) h _ (by rw [hw]; exact List.mem_cons_self))
    exact ⟨meth, c, h1, h2, h3, h4, h5, h6⟩
  · intro p e s m args below meth c s₁ B hml hv _
    have hh0 : s₁.heap = s.heap := by rw [B.state]; rfl
    have X₀ := Stand.of_body B
    obtain ⟨rfl, hsz, hP, hK, hD0⟩ := hv
    obtain ⟨meth', c', h1, h2, -, -, -, -, h7, -⟩ := Cond.code_spec B.named (atoms_spec (ws := wy) B.pre _ (by rw [hw]; exact List.mem_cons_self))
    cases B.method.symm.trans h1
    cases X₀.code.symm.trans h2
    have hex : c.exceptionTable.toList = [] := List.eq_nil_of_length_eq_zero (by simpa [Array.isEmpty] using h7)
    have hl := lv_entry av (n := maxL) hav
    have G : W p l e (headSpec wy rm).room s m av.toArray below meth c s.heap [] 0 0 (gt_MQ below Qc av.toArray s mc ms (va_A wc sz)) (entryFrame m av.toArray maxL) := by
      rw [lg_entry_eq]
      generalize (lg_sl av ++ List.replicate (maxL - (lg_sl av).length) Slot.unset).toArray = ls at hl ⊢
      rw [hlv] at hl
      exact body p e s m _ below meth c _ _ rfl rfl ⟨B.exec, B.bytes, hml, findClass_of_methodNamed B.named, atoms_spec (ws := wy) B.pre, fun q h => Or.inr (hsz ▸ h), B.notSynchronized⟩ hex s.heap [] ls hP (hD0.self (sz := sz)) hK va_S.rf hl
    obtain ⟨t, a1, o, b1, b2, b3⟩ := G s₁ hh0 X₀
    exact ⟨t, o, a1, b1, b2, ⟨b3.1, b3.2⟩⟩
theorem gt_athrow (F : gF p s m args meth c cc own nL Ts A) (hex : c.exceptionTable.toList = []) {wc : va_W} {sz x : Nat} {w1 : va_W} {t1 : List (ClassId × FieldType)} (hA : A = va_A wc sz) (hQ : Q = gt_MQ below (gt_Q x (gq_B (S := Unit) D (va_A wc sz) (fun _ => w1) (fun _ => t1) ()) (va_A wc sz)) args s k n (va_A wc sz)) (is js : List Nat) (hf : is.filterMap (fun i => ws[i]?) = w1) (hn : va_nd is = true) (hm : is.map (fun i => ws[i]?) = w1.map some) (ht : js.filterMap (fun i => tys[i]?) = t1) (hd : decode cc pc = .ok (.athrow, 1)) : gG p l e R s m args below meth c D A nL Q k n ws tys lv pc (.ref x :: st) := by
  subst hA
  subst hQ
  intro H locs ls hP hD hK hS hl T hT X
  obtain ⟨hwalk, hrun, hended, hWU, hsame⟩ := X.athrowLeaves F.1 (g := F0 m pc ls (.ref x :: st)) rfl rfl rfl (by rw [hex]; intro y hy; cases hy) (a := x) (rest := st) rfl (by rw [F.2.1]; exact hd) F.2.2.2.2.2.2
  have hh : (T.setFrames (.throwing x :: below)).heap = H := hT
  exact ⟨_, hwalk, .threw x, hrun, hended, ⟨⟨rfl, by rw [hh]; exact hP.sub is hf, va_K.moved hWU.alike (hK.sub js ht), hD.sub is hn hm⟩, hS.F hh⟩, locs, ⟨⟨x, rfl⟩, hWU, hsame⟩, hS.2.2⟩
theorem gt_runV {H : Heap} {locs : List Loc} {cells slots : Nat} {y : MethodName} {bytes : ByteArray} {maxL mc ms nA index : Nat} {ret : Option FieldType} {wy : List Cond} {rm : Room} {Pc : Array Value → State → Prop} {Qc : Array Value → State → Outcome → State → Prop} {free : Addr → Prop} {C : String} {b : Addr} {As rest : List Value} {g : JFrame}
    (S : CallFix p m c cc nL s args Ts own) (hM : gt_Met l y wy rm Pc Qc mc ms free) (cw : CallW R s args own C index y bytes maxL ret wy rm mc ms nA) (hp : PreV s H C b Pc As)
    (hg : g.method = m) (hn : As.length = nA) (hsize : g.locals.size = nL) (hstack : g.stack = As.reverse ++ .ref b :: rest) (hW : 2 * g.monitorRoom + (rest.map fun v => v.category).sum ≤ 8) (hdg : decode cc g.pc = .ok (.invokevirtual index, 3)) (hf : cells + mc ≤ R.cells ∧ slots + ms ≤ R.slots) :
    ∀ T : State, T.heap = H → Stand p l e R s m args below meth c T locs cells slots → ∃ (x : Addr) (st₀ t T' : State) (L : List Loc), st₀.heap = H ∧ Stand p l e R s m args below meth c T' (locs ++ L) (cells + mc) (slots + ms) ∧ (∀ q ∈ L, free q.base) ∧ T'.heap = t.heap ∧ T'.vm = t.vm ∧ Qc (Value.ref b :: As).toArray st₀ (.threw x) t ∧
      Steps p.tables e below (T.setTop g) ((T'.setTop { g with stack := rest }).pushFrame (.throwing x)) := by
  obtain ⟨⟨hrc, hrs, hfr, hlo, hws, hcw, hcode, hini, hy, hlen, hl⟩, hin, hse⟩ := cw
  obtain ⟨hx, hb, hml, ho, -⟩ := S
  obtain ⟨hbl, ⟨cellB, hcB, hoB, hclB⟩, hPc⟩ := hp
  intro T hT X
  obtain ⟨mk, methM, hnamed, hmethM, hstM, habM⟩ := Cond.instanceMethod_spec hin
  obtain ⟨methM', cM, hmethM', -, -, -, -, -, -, hsigM⟩ := Cond.code_spec hnamed hcode
  cases hmethM.symm.trans hmethM'
  obtain ⟨c2, r2, m2, q1, q2, q3, q4, kP, hkP, hkPi⟩ := Cond.selects_spec hse
  cases hclB.symm.trans q1
  cases (State.methodFound?_of_named hnamed hy).symm.trans q2
  cases hnamed.symm.trans q3
  have hselP : selectMethod e.platform s.vm cellB.cls mk = .method mk := by rw [Launch.admits_selectMethod X.admits]; exact q4
  have hdc : decode c.code g.pc = .ok (.invokevirtual index, 3) := by rw [hb]; exact hdg
  obtain ⟨vm₁, X₁, hstep₁⟩ := X.invokevirtual hx ho hl hnamed hmethM hstM hkP hkPi hy (a := b) (cell := cellB) (by rw [hT]; exact hcB)
    (fun z h => by rw [h] at hoB; cases hoB) hselP hmethM habM hkP hkPi (g := g) hg (argsL := As) (rest := rest) (hn.trans (hlen _ hsigM)) hstack hdc
  have hn1 : (T.setVm vm₁).methodNamed? y = some mk := X₁.named hnamed
  have hwarm : s.WarmedH (T.setVm vm₁).vm := X₁.warmed
  have h1 : (headSpec wy rm).pre.before (Value.ref b :: As).toArray (T.setVm vm₁) = true := atoms_intro fun w hw => hws w hw _ _ hwarm
  obtain ⟨methY, cY, hmY, hcY, -, hlY, -, -, -, -⟩ := Cond.code_spec hn1 (hws _ hcw (Value.ref b :: As).toArray _ hwarm)
  obtain ⟨kY, hkY, -⟩ := className_of_methodNamed hn1
  have hini1 : (Cond.initialized y.cls).before (Value.ref b :: As).toArray (T.setVm vm₁) = true := word_at hwarm (Or.inl (by first | rfl | simp [Cond.onTables, Cond.keeps, Cond.steady])) hini
  have hinitY : kY.init = .initialized := Cond.initialized_spec (findClass_of_methodNamed hn1) hkY hini1
  have h : At (T.setVm vm₁) ({ g with stack := rest } : JFrame).method c below := by rw [show ({ g with stack := rest } : JFrame).method = m from hg]; exact X₁.here
  have happ : (headSpec wy rm).appliesLoose y e.platform ((T.setVm vm₁).calling { g with stack := rest } mk (Value.ref b :: As).toArray) = true :=
    Spec.appliesLoose_calling (g := { g with stack := rest }) h hdc hn1 hkY hinitY
      (X₁.room_calling (g := { g with stack := rest }) (R' := (headSpec wy rm).room) (hsize.trans hml.symm) hmY hcY hfr (by rw [hlY]; show 2 * g.monitorRoom + (rest.map fun v => v.category).sum + (maxL + 11) + rm.locals ≤ R.locals; omega) (by rw [show (headSpec wy rm).room.cells = mc from hrc]; exact hf.1) (by rw [show (headSpec wy rm).room.slots = ms from hrs]; exact hf.2)) h1
  obtain ⟨mid, hmid⟩ := h.above
  have hfrm : ((T.setVm vm₁).setTop { g with stack := rest }).frames = (.java { g with stack := rest } :: mid) ++ below := by rw [State.frames_setTop' _ h.top, hmid]; rfl
  obtain ⟨o, s₂, hsteps, -, hend, hq⟩ := Steps.callFree hM p X₁.admits X₁.cas X₁.clock (acts := []) hfrm happ (hbl _ _ _ _ (hPc (T.setVm vm₁) hT hwarm)) trivial
  rw [State.frames_setTop' _ h.top, X₁.tail] at hend
  obtain ⟨hq1, L, ⟨⟨x, rfl⟩, hW₂, hsame⟩, hL⟩ := hq
  obtain ⟨T', X', -, -, ht⟩ := X₁.outOfThrown (g := { g with stack := rest }) hg hend hW₂ hsame
  refine ⟨x, (T.setVm vm₁).calling { g with stack := rest } mk (Value.ref b :: As).toArray, s₂, T', L, hT, X', hL, by rw [ht]; rfl, by rw [ht]; rfl, hq1, ?_⟩
  rw [← ht]
  exact hstep₁ _ fun acts => by rw [doInvoke_state]; exact hsteps
theorem gt_thru (F : gF p s m args meth c cc own nL Ts A) (hex : c.exceptionTable.toList = []) {y : MethodName} {bytes : ByteArray} {maxL index nA fr lo mc ms : Nat} {ret : Option FieldType} {wy : List Cond} {b : Nat} {As : List Value} {wc wr : va_W} {tc : List (ClassId × FieldType)} (isC isR isT : List Nat) (hC : isC.map (fun i => ws[i]?) = wc.map some) (hCf : isC.filterMap (fun i => ws[i]?) = wc) (hnC : va_nd isC = true) (hR : isR.map (fun i => ws[i]?) = wr.map some) (hnR : va_nd isR = true) (hdis : ∀ i ∈ isR, i ∉ isC) (hT : isT.filterMap (fun i => tys[i]?) = tc) {x : Nat} {w1 : va_W} {t1 : List (ClassId × FieldType)} (hM : ∀ sz : Nat, Kt l y wy fr lo mc ms D (.ref b :: As) wc tc sz x w1 t1) {C : String} {ci : Nat} {T : u_T} {N : Nat} {fs : List Value} (cw : CallW R s args own C index y bytes maxL ret wy (gR fr mc ms lo) mc ms nA) (hci : vwCl[ci]? = some (C, T, N)) (q0 : Nat) (hb0 : wc[q0]? = some (b, .inr (ci, fs))) (hn : As.length = nA) (hroom : (st.map fun v => v.category).sum ≤ 8) (hf : k + mc ≤ R.cells ∧ n + ms ≤ R.slots) (hd : decode cc pc = .ok (.invokevirtual index, 3))
    {wo : va_W} {sz : Nat} {w2 : va_W} {t2 : List (ClassId × FieldType)} (hA : A = va_A wo sz) (hQ : Q = gt_MQ below (gt_Q x (gq_B (S := Unit) D (va_A wo sz) (fun _ => w2) (fun _ => t2) ()) (va_A wo sz)) args s (k + mc) (n + ms) (va_A wo sz)) (is js : List Nat) (hfo : is.filterMap (fun i => (wr ++ w1)[i]?) = w2) (hno : va_nd is = true) (hmo : is.map (fun i => (wr ++ w1)[i]?) = w2.map some) (hto : js.filterMap (fun i => tys[i]?) = t2) : gG p l e R s m args below meth c D A nL Q k n ws tys lv pc (As.reverse ++ .ref b :: st) := by
  intro H locs ls hP hD hK hS hl T₀ hT₀ X
  have hPc := hP.sub isC hCf
  have hDc := hD.sub isC hnC hC
  have hKc := hK.sub isT hT
  have hFc := va_free (wc := wc) hD hS F.2.2.2.2.2.1 isC hC
  obtain ⟨x', st₀, t, T', L, h0, X', hL, e1, e2, ⟨⟨hx', hB⟩, hz, hk⟩, hst⟩ := gt_runV (As := As) (rest := st) (g := F0 m pc ls (As.reverse ++ .ref b :: st)) ⟨F.1, F.2.1, F.2.2.1, F.2.2.2.1, F.2.2.2.2.1⟩ (hM H.size) cw ⟨gq_blind, va_recv hKc hPc hci hb0, gq_pre hPc hKc hDc⟩ rfl hn hl.1 rfl (lv_room hroom) hd hf T₀ hT₀ X
  cases hx'
  rw [h0] at hz hk
  obtain ⟨hP1, hK1, hD1⟩ := hB
  rw [← e1] at hP1 hz
  have hk1 : ∀ q : Nat, q < H.size → ¬ va_A wc H.size q → T'.heap[q]? = H[q]? := fun q a1 a2 => by rw [e1]; exact hk q a1 a2
  obtain ⟨hP2, hD2⟩ := va_join hP hD isC isR hC hR hnR hdis hk1 hFc hP1 hD1
  have hS1 : va_S A s.heap T'.heap (locs ++ L) := ⟨Nat.le_trans hS.1 hz, fun q a1 a2 => by rw [hk1 q (Nat.lt_of_lt_of_le a1 hS.1) (fun z => a2 (hFc q z))]; exact hS.2.1 q a1 a2, fun q hq => by
    rcases List.mem_append.mp hq with h | h
    · exact hS.2.2 q h
    · exact hFc _ (hL q h)⟩
  subst hA
  subst hQ
  obtain ⟨hwalk, hrun, hended, hWU, hsame⟩ := X'.leaveThrown x (g := F0 m pc ls st) rfl rfl rfl (by rw [hex]; intro y hy; cases hy) F.2.2.2.2.2.2
  have hh : (T'.setFrames (.throwing x :: below)).heap = T'.heap := rfl
  exact ⟨_, hst.trans hwalk, .threw x, hrun, hended, ⟨⟨rfl, by rw [hh]; exact hP2.sub is hfo, va_K.moved hWU.alike (hK.sub js hto), hD2.sub is hno hmo⟩, hS1.F hh⟩, locs ++ L, ⟨⟨x, rfl⟩, hWU, hsame⟩, hS1.2.2⟩
end GT
