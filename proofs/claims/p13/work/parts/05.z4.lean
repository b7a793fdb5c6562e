/-! an answer, or a throw of one object -/
def gx_end (first : State) (t : State) (L : List Loc) (k n : Nat) : Prop := first.WarmedH t.vm ∧ first.sameButNew ({ t with vm := first.vm } : State) L k n
def gx_Met (l : Launch) (y : MethodName) (ws : List Cond) (rm : Room) (Pc : Array Value → State → Prop) (Qc : Array Value → State → Outcome → State → Prop) (mc ms : Nat) (free : Addr → Prop) : Prop :=
  MetFree l y (headSpec ws rm) Pc (fun _ _ _ _ _ => True) (fun a st o t => Qc a st o t ∧ ∃ L, gx_end st t L mc ms ∧ ∀ q ∈ L, free q.base)
def gx_MQ (below : List Frame) (Qc : Array Value → State → Outcome → State → Prop) (a : Array Value) (s : State) (mc ms : Nat) (free : Addr → Prop) : State → Prop := fun t =>
  ∃ o, t.status = .running ∧ Ended t below o ∧ Qc a s o t ∧ ∃ L, gx_end s t L mc ms ∧ ∀ q ∈ L, free q.base
def gx_Qi {S : Type} (post : Int32 → S → Prop) (postT : S → Prop) (x : Nat) (B : S → State → Prop) (A : Nat → Prop) : Array Value → State → Outcome → State → Prop := fun _ st oc t => ((∃ (r : Int32) (u : S), oc = .returned (some (.int r)) ∧ post r u ∧ B u t) ∨ (∃ u : S, oc = .threw x ∧ postT u ∧ B u t)) ∧ va_F A st t
def gx_Qv {S : Type} (post : S → Prop) (postT : S → Prop) (x : Nat) (B : S → State → Prop) (A : Nat → Prop) : Array Value → State → Outcome → State → Prop := fun _ st oc t => ((∃ u : S, oc = .returned none ∧ post u ∧ B u t) ∨ (∃ u : S, oc = .threw x ∧ postT u ∧ B u t)) ∧ va_F A st t
def Kxi {S : Type} (l : Launch) (y : MethodName) (wy : List Cond) (fr lo : Nat) (D : va_G) (av : List Value) (wc : va_W) (tc : List (ClassId × FieldType)) (sz : Nat) (post : Int32 → S → Prop) (postT : S → Prop) (x : Nat) (w1 : S → va_W) : Prop := gx_Met l y wy (gR fr 0 0 lo) (va_Pc av (gq_U D wc tc sz)) (gx_Qi post postT x (gq_B D (va_A wc sz) w1 (fun _ => tc)) (va_A wc sz)) 0 0 (va_A wc sz)
def Kxv {S : Type} (l : Launch) (y : MethodName) (wy : List Cond) (fr lo : Nat) (D : va_G) (av : List Value) (wc : va_W) (tc : List (ClassId × FieldType)) (sz : Nat) (post : S → Prop) (postT : S → Prop) (x : Nat) (w1 : S → va_W) : Prop := gx_Met l y wy (gR fr 0 0 lo) (va_Pc av (gq_U D wc tc sz)) (gx_Qv post postT x (gq_B D (va_A wc sz) w1 (fun _ => tc)) (va_A wc sz)) 0 0 (va_A wc sz)
section GXT
variable {p : Program} {l : Launch} {e : Env} {R : Room} {s : State} {m : MethodId} {args : Array Value} {below : List Frame} {meth : Method} {c : Code} {cc : ByteArray} {own : String} {nL : Nat} {Ts : List Cond} {D : va_G} {A : Nat → Prop} {Q : State → Prop} {k n : Nat} {ws ws' : va_W} {tys : List (ClassId × FieldType)} {lv lv' : List (Nat × Value)} {pc : Nat} {st : List Value}
theorem gx_ofW {y : MethodName} {wy wy' : List Cond} {rm : Room} {av : List Value} {wc : va_W} {tc : List (ClassId × FieldType)} {sz : Nat} {Qc : Array Value → State → Outcome → State → Prop} {mc ms : Nat} {maxL : Nat} {ret : Option FieldType} (hy : plainName y.cls = true) (hw : wy = Cond.code y cc maxL ret :: wy') (hav : (lg_sl av).length ≤ maxL) (hlv : lv_args 0 av = lv) (body : ∀ (p : Program) (e : Env) (s : State) (m : MethodId) (args : Array Value) (below : List Frame) (meth : Method) (c : Code) (A : Nat → Prop) (Q : State → Prop), A = va_A wc sz → Q = gx_MQ below Qc args s mc ms (va_A wc sz) → gF p s m args meth c cc y.cls maxL wy A → meth.sig.returnType = ret → c.exceptionTable.toList = [] → gG p l e rm s m args below meth c D A maxL Q 0 0 wc tc lv 0 []) : gx_Met l y wy rm (va_Pc av (gq_U D wc tc sz)) Qc mc ms (va_A wc sz) := by
  refine MetFree.of_bodyS (code := cc) (maxLocals := maxL) (ret := ret) hy ?_ ?_
  · intro args s m h hn
    obtain ⟨meth, c, h1, h2, h3, h4, h5, h6, -, -⟩ := Cond.code_spec hn (atoms_spec (ws := wy) h _ (by rw [hw]; exact List.mem_cons_self))
    exact ⟨meth, c, h1, h2, h3, h4, h5, h6⟩
  · intro p e s m args below meth c s₁ B hml hv _
    have hh0 : s₁.heap = s.heap := by rw [B.state]; rfl
    have X₀ := Stand.of_body B
    obtain ⟨rfl, hsz, hP, hK, hD0⟩ := hv
    obtain ⟨meth', c', h1, h2, -, -, -, -, h7, -⟩ := Cond.code_spec B.named (atoms_spec (ws := wy) B.pre _ (by rw [hw]; exact List.mem_cons_self))
    cases B.method.symm.trans h1
    cases X₀.code.symm.trans h2
    have hex : c.exceptionTable.toList = [] := List.eq_nil_of_length_eq_zero (by simpa [Array.isEmpty] using h7)
    have hl := lv_entry av (n := maxL) hav
    have G : W p l e (headSpec wy rm).room s m av.toArray below meth c s.heap [] 0 0 (gx_MQ below Qc av.toArray s mc ms (va_A wc sz)) (entryFrame m av.toArray maxL) := by
      rw [lg_entry_eq]
      generalize (lg_sl av ++ List.replicate (maxL - (lg_sl av).length) Slot.unset).toArray = ls at hl ⊢
      rw [hlv] at hl
      exact body p e s m _ below meth c _ _ rfl rfl ⟨B.exec, B.bytes, hml, findClass_of_methodNamed B.named, atoms_spec (ws := wy) B.pre, fun q h => Or.inr (hsz ▸ h), B.notSynchronized⟩ B.returns hex s.heap [] ls hP (hD0.self (sz := sz)) hK va_S.rf hl
    obtain ⟨t, a1, o, b1, b2, b3⟩ := G s₁ hh0 X₀
    exact ⟨t, o, a1, b1, b2, ⟨b3.1, b3.2⟩⟩
theorem gx_runV {H : Heap} {locs : List Loc} {cells slots : Nat} {y : MethodName} {bytes : ByteArray} {maxL mc ms nA index : Nat} {ret : Option FieldType} {wy : List Cond} {rm : Room} {Pc : Array Value → State → Prop} {Qc : Array Value → State → Outcome → State → Prop} {free : Addr → Prop} {C : String} {b : Addr} {As rest : List Value} {g : JFrame}
    (S : CallFix p m c cc nL s args Ts own) (hM : gx_Met l y wy rm Pc Qc mc ms free) (cw : CallW R s args own C index y bytes maxL ret wy rm mc ms nA) (hp : PreV s H C b Pc As)
    (hg : g.method = m) (hn : As.length = nA) (hsize : g.locals.size = nL) (hstack : g.stack = As.reverse ++ .ref b :: rest) (hW : 2 * g.monitorRoom + (rest.map fun v => v.category).sum ≤ 8) (hdg : decode cc g.pc = .ok (.invokevirtual index, 3)) (hf : cells + mc ≤ R.cells ∧ slots + ms ≤ R.slots) :
    ∀ T : State, T.heap = H → Stand p l e R s m args below meth c T locs cells slots → ∃ (o : Outcome) (st₀ t T' : State) (L : List Loc), st₀.heap = H ∧ (∀ q ∈ L, free q.base) ∧ Qc (Value.ref b :: As).toArray st₀ o t ∧ T'.heap = t.heap ∧ T'.vm = t.vm ∧
      (((∃ v, o = .returned v) ∨ ∃ x, o = .threw x) → Stand p l e R s m args below meth c T' (locs ++ L) (cells + mc) (slots + ms)) ∧
      (∀ v, o = .returned v → Steps p.tables e below (T.setTop g) (T'.setTop { g with pc := g.pc + 3, stack := v.toList ++ rest })) ∧
      (∀ x, o = .threw x → Steps p.tables e below (T.setTop g) ((T'.setTop { g with stack := rest }).pushFrame (.throwing x))) := by
  obtain ⟨⟨hrc, hrs, hfr, hlo, hws, hcw, hcode, hini, hy, hlen, hl⟩, hin, hse⟩ := cw
  obtain ⟨hx, hb, hml, ho, -⟩ := S
  obtain ⟨hbl, ⟨cellB, hcB, hoB, hclB⟩, hPc⟩ := hp
  intro T hT X
  obtain ⟨mk, methM, hnamed, hmethM, hstM, habM⟩ := Cond.instanceMethod_spec hin
  obtain ⟨methM', cM, hmethM', -, -, -, -, -, -, hsigM⟩ := Cond.code_spec hnamed hcode
  cases hmethM.symm.trans hmethM'
  obtain ⟨c2, r2, m2, q1, q2, q3, q4, kP, hkP, hkPi⟩ := Cond.selects_spec hse
  cases hclB.symm.trans q1
  cases (State.methodFound?_of_named hnamed hy).symm.trans q2
  cases hnamed.symm.trans q3
  have hselP : selectMethod e.platform s.vm cellB.cls mk = .method mk := by rw [Launch.admits_selectMethod X.admits]; exact q4
  have hdc : decode c.code g.pc = .ok (.invokevirtual index, 3) := by rw [hb]; exact hdg
  obtain ⟨vm₁, X₁, hstep₁⟩ := X.invokevirtual hx ho hl hnamed hmethM hstM hkP hkPi hy (a := b) (cell := cellB) (by rw [hT]; exact hcB)
    (fun z h => by rw [h] at hoB; cases hoB) hselP hmethM habM hkP hkPi (g := g) hg (argsL := As) (rest := rest) (hn.trans (hlen _ hsigM)) hstack hdc
  have hn1 : (T.setVm vm₁).methodNamed? y = some mk := X₁.named hnamed
  have hwarm : s.WarmedH (T.setVm vm₁).vm := X₁.warmed
  have h1 : (headSpec wy rm).pre.before (Value.ref b :: As).toArray (T.setVm vm₁) = true := atoms_intro fun w hw => hws w hw _ _ hwarm
  obtain ⟨methY, cY, hmY, hcY, -, hlY, -, -, -, -⟩ := Cond.code_spec hn1 (hws _ hcw (Value.ref b :: As).toArray _ hwarm)
  obtain ⟨kY, hkY, -⟩ := className_of_methodNamed hn1
  have hini1 : (Cond.initialized y.cls).before (Value.ref b :: As).toArray (T.setVm vm₁) = true := word_at hwarm (Or.inl (by first | rfl | simp [Cond.onTables, Cond.keeps, Cond.steady])) hini
  have hinitY : kY.init = .initialized := Cond.initialized_spec (findClass_of_methodNamed hn1) hkY hini1
  have h : At (T.setVm vm₁) ({ g with stack := rest } : JFrame).method c below := by rw [show ({ g with stack := rest } : JFrame).method = m from hg]; exact X₁.here
  have happ : (headSpec wy rm).appliesLoose y e.platform ((T.setVm vm₁).calling { g with stack := rest } mk (Value.ref b :: As).toArray) = true :=
    Spec.appliesLoose_calling (g := { g with stack := rest }) h hdc hn1 hkY hinitY
      (X₁.room_calling (g := { g with stack := rest }) (R' := (headSpec wy rm).room) (hsize.trans hml.symm) hmY hcY hfr (by rw [hlY]; show 2 * g.monitorRoom + (rest.map fun v => v.category).sum + (maxL + 11) + rm.locals ≤ R.locals; omega) (by rw [show (headSpec wy rm).room.cells = mc from hrc]; exact hf.1) (by rw [show (headSpec wy rm).room.slots = ms from hrs]; exact hf.2)) h1
  obtain ⟨mid, hmid⟩ := h.above
  have hfrm : ((T.setVm vm₁).setTop { g with stack := rest }).frames = (.java { g with stack := rest } :: mid) ++ below := by rw [State.frames_setTop' _ h.top, hmid]; rfl
  obtain ⟨o, s₂, hsteps, -, hend, hq⟩ := Steps.callFree hM p X₁.admits X₁.cas X₁.clock (acts := []) hfrm happ (hbl _ _ _ _ (hPc (T.setVm vm₁) hT hwarm)) trivial
  rw [State.frames_setTop' _ h.top, X₁.tail] at hend
  obtain ⟨hq1, L, ⟨hW₂, hsame⟩, hL⟩ := hq
  cases o with
  | returned v =>
    obtain ⟨T', X', -, -, ht⟩ := X₁.outOf (g := { g with stack := rest }) hg (ig := .invokevirtual index) (len := 3) hdc hend hW₂ hsame
    refine ⟨.returned v, (T.setVm vm₁).calling { g with stack := rest } mk (Value.ref b :: As).toArray, s₂, T', L, hT, hL, hq1, by rw [ht]; rfl, by rw [ht]; rfl, fun _ => X', fun v2 e2 => ?_, fun x e2 => (by cases e2)⟩
    cases e2
    rw [ht] at hsteps
    exact hstep₁ _ fun acts => by rw [doInvoke_state]; exact hsteps
  | threw x =>
    obtain ⟨T', X', -, -, ht⟩ := X₁.outOfThrown (g := { g with stack := rest }) hg hend hW₂ hsame
    refine ⟨.threw x, (T.setVm vm₁).calling { g with stack := rest } mk (Value.ref b :: As).toArray, s₂, T', L, hT, hL, hq1, by rw [ht]; rfl, by rw [ht]; rfl, fun _ => X', fun v2 e2 => (by cases e2), fun x2 e2 => ?_⟩
    cases e2
    rw [ht] at hsteps
    exact hstep₁ _ fun acts => by rw [doInvoke_state]; exact hsteps
theorem ux_iret (F : gF p s m args meth c cc own nL Ts A) {wc : va_W} {sz x : Nat} {tc : List (ClassId × FieldType)} {S : Type} {post : Int32 → S → Prop} {postT : S → Prop} {w1 : S → va_W} (hA : A = va_A wc sz) (hQ : Q = gx_MQ below (gx_Qi post postT x (gq_B D (va_A wc sz) w1 (fun _ => tc)) (va_A wc sz)) args s k n (va_A wc sz)) (hr : meth.sig.returnType = some .int) {v : Int32} (u : S) (hp : post v u) (hw : w1 u = ws) (ht : tc = tys) (hd : decode cc pc = .ok (.ireturn, 1)) : gG p l e R s m args below meth c D A nL Q k n ws tys lv pc [.int v] := by
  subst hA
  subst hQ
  subst hw
  subst ht
  intro H locs ls hP hD hK hS hl T hT X
  obtain ⟨t, a1, oc, b1, b2, b3, L, b4, b7⟩ := W.iret (Qc := gx_Qi post postT x (gq_B D (va_A wc sz) w1 (fun _ => tc)) (va_A wc sz)) (free := va_A wc sz) F.1 F.2.1 hr (fun t hh hW => ⟨Or.inl ⟨v, u, rfl, hp, by rw [hh]; exact hP, va_K.moved hW.alike hK, hD⟩, hS.F hh⟩) hS.2.2 hd F.2.2.2.2.2.2 T hT X
  exact ⟨t, a1, oc, b1, b2, b3, L, ⟨b4.2.1, b4.2.2⟩, b7⟩
theorem ux_vret (F : gF p s m args meth c cc own nL Ts A) {wc : va_W} {sz x : Nat} {tc : List (ClassId × FieldType)} {S : Type} {post : S → Prop} {postT : S → Prop} {w1 : S → va_W} (hA : A = va_A wc sz) (hQ : Q = gx_MQ below (gx_Qv post postT x (gq_B D (va_A wc sz) w1 (fun _ => tc)) (va_A wc sz)) args s k n (va_A wc sz)) (hr : meth.sig.returnType = none)  (u : S) (hp : post u) (hw : w1 u = ws) (ht : tc = tys) (hd : decode cc pc = .ok (.return_, 1)) : gG p l e R s m args below meth c D A nL Q k n ws tys lv pc [] := by
  subst hA
  subst hQ
  subst hw
  subst ht
  intro H locs ls hP hD hK hS hl T hT X
  obtain ⟨t, a1, oc, b1, b2, b3, L, b4, b7⟩ := W.vret (Qc := gx_Qv post postT x (gq_B D (va_A wc sz) w1 (fun _ => tc)) (va_A wc sz)) (free := va_A wc sz) F.1 F.2.1 hr (fun t hh hW => ⟨Or.inl ⟨u, rfl, hp, by rw [hh]; exact hP, va_K.moved hW.alike hK, hD⟩, hS.F hh⟩) hS.2.2 hd F.2.2.2.2.2.2 T hT X
  exact ⟨t, a1, oc, b1, b2, b3, L, ⟨b4.2.1, b4.2.2⟩, b7⟩
theorem ux_athrow (F : gF p s m args meth c cc own nL Ts A) (hex : c.exceptionTable.toList = []) {wc : va_W} {sz x : Nat} {tc : List (ClassId × FieldType)} {S : Type} {post : S → Prop} {postT : S → Prop} {w1 : S → va_W} (hA : A = va_A wc sz) (hQ : Q = gx_MQ below (gx_Qv post postT x (gq_B D (va_A wc sz) w1 (fun _ => tc)) (va_A wc sz)) args s k n (va_A wc sz)) (u : S) (hp : postT u) (hw : w1 u = ws) (ht : tc = tys) (hd : decode cc pc = .ok (.athrow, 1)) : gG p l e R s m args below meth c D A nL Q k n ws tys lv pc (.ref x :: st) := by
  subst hA
  subst hQ
  subst hw
  subst ht
  intro H locs ls hP hD hK hS hl T hT X
  obtain ⟨hwalk, hrun, hended, hWU, hsame⟩ := X.athrowLeaves F.1 (g := F0 m pc ls (.ref x :: st)) rfl rfl rfl (by rw [hex]; intro y hy; cases hy) (a := x) (rest := st) rfl (by rw [F.2.1]; exact hd) F.2.2.2.2.2.2
  have hh : (T.setFrames (.throwing x :: below)).heap = H := hT
  exact ⟨_, hwalk, .threw x, hrun, hended, ⟨Or.inr ⟨u, rfl, hp, by rw [hh]; exact hP, va_K.moved hWU.alike hK, hD⟩, hS.F hh⟩, locs, ⟨hWU, hsame⟩, hS.2.2⟩
theorem ux_callii (F : gF p s m args meth c cc own nL Ts A) {y : MethodName} {bytes : ByteArray} {maxL index nA fr lo : Nat} {ret : Option FieldType} {wy : List Cond} {b : Nat} {As : List Value}  {S : Type} {post : Int32 → S → Prop} {postT : S → Prop} {x : Nat} {w1 : S → va_W} (hM : ∀ sz : Nat, Kxi l y wy fr lo D (.ref b :: As) ws tys sz post postT x w1) {C : String} {ci : Nat} {T : u_T} {N : Nat} {fs : List Value} (cw : CallW R s args own C index y bytes maxL ret wy (gR fr 0 0 lo) 0 0 nA) (hci : vwCl[ci]? = some (C, T, N)) (q0 : Nat) (hb0 : ws[q0]? = some (b, .inr (ci, fs))) (hn : As.length = nA) (hroom : (st.map fun v => v.category).sum ≤ 8) (hf : k ≤ R.cells ∧ n ≤ R.slots) (hd : decode cc pc = .ok (.invokevirtual index, 3)) (hex : c.exceptionTable.toList = []) {wo : va_W} {sz : Nat} {post2 : Int32 → S → Prop} {postT2 : S → Prop} (hA : A = va_A wo sz) (hQ : Q = gx_MQ below (gx_Qi post2 postT2 x (gq_B D (va_A wo sz) w1 (fun _ => tys)) (va_A wo sz)) args s k n (va_A wo sz)) (kt : ∀ u : S, postT u → postT2 u) (kk : ∀ (r : Int32) (u : S), post r u → gG p l e R s m args below meth c D A nL Q k n (w1 u) tys lv (pc + 3) (.int r :: st)) : gG p l e R s m args below meth c D A nL Q k n ws tys lv pc (As.reverse ++ .ref b :: st) := by
  intro H locs ls hP hD hK hS hl T₀ hT₀ X
  have hFc := va_free (wc := ws) hD hS F.2.2.2.2.2.1 (List.range ws.length) (gu_rm ws)
  have hD0 : va_D (fun _ => True) ws := hD.weaken (fun _ _ _ _ => trivial)
  obtain ⟨oc, st₀, t, T', L, h0, hL, ⟨hq, hz, hk⟩, e1, e2, hX, hret, hthr⟩ := gx_runV (As := As) (rest := st) (g := F0 m pc ls (As.reverse ++ .ref b :: st)) ⟨F.1, F.2.1, F.2.2.1, F.2.2.2.1, F.2.2.2.2.1⟩ (hM H.size) cw ⟨gq_blind, va_recv hK hP hci hb0, gq_pre hP hK hD⟩ rfl hn hl.1 rfl (lv_room hroom) hd hf T₀ hT₀ X
  rw [h0] at hz hk
  have hz1 : H.size ≤ T'.heap.size := by rw [e1]; exact hz
  have hk1 : ∀ q : Nat, q < H.size → ¬ va_A ws H.size q → T'.heap[q]? = H[q]? := fun q a1 a2 => by rw [e1]; exact hk q a1 a2
  have hS1 : va_S A s.heap T'.heap (locs ++ L) := ⟨Nat.le_trans hS.1 hz1, fun q a1 a2 => by rw [hk1 q (Nat.lt_of_lt_of_le a1 hS.1) (fun z => a2 (hFc q z))]; exact hS.2.1 q a1 a2, fun q hq => by
    rcases List.mem_append.mp hq with h | h
    · exact hS.2.2 q h
    · exact hFc _ (hL q h)⟩
  rcases hq with ⟨r, u, hv, hp, hB⟩ | ⟨u, hv, hp, hB⟩
  · subst hv
    have X' := hX (Or.inl ⟨_, rfl⟩)
    obtain ⟨hP1, -, hD1⟩ := hB
    rw [← e1] at hP1
    obtain ⟨t2, a1, b1⟩ := kk r u hp T'.heap (locs ++ L) ls hP1 (hD1.weaken (fun k q _ h => hFc q.1 h)) hK hS1 hl T' rfl X'
    exact ⟨t2, (hret _ rfl).trans a1, b1⟩
  · subst hv
    have X' := hX (Or.inr ⟨_, rfl⟩)
    obtain ⟨hP1, -, hD1⟩ := hB
    rw [← e1] at hP1
    subst hA
    subst hQ
    obtain ⟨hwalk, hrun, hended, hWU, hsame⟩ := X'.leaveThrown x (g := F0 m pc ls st) rfl rfl rfl (by rw [hex]; intro y hy; cases hy) F.2.2.2.2.2.2
    have hh : (T'.setFrames (.throwing x :: below)).heap = T'.heap := rfl
    exact ⟨_, (hthr _ rfl).trans hwalk, .threw x, hrun, hended, ⟨Or.inr ⟨u, rfl, kt u hp, by rw [hh]; exact hP1, va_K.moved hWU.alike hK, hD1.weaken (fun k q _ h => hFc q.1 h)⟩, hS1.F hh⟩, locs ++ L, ⟨hWU, hsame⟩, hS1.2.2⟩
theorem ux_calliv (F : gF p s m args meth c cc own nL Ts A) {y : MethodName} {bytes : ByteArray} {maxL index nA fr lo : Nat} {ret : Option FieldType} {wy : List Cond} {b : Nat} {As : List Value}  {S : Type} {post : Int32 → S → Prop} {postT : S → Prop} {x : Nat} {w1 : S → va_W} (hM : ∀ sz : Nat, Kxi l y wy fr lo D (.ref b :: As) ws tys sz post postT x w1) {C : String} {ci : Nat} {T : u_T} {N : Nat} {fs : List Value} (cw : CallW R s args own C index y bytes maxL ret wy (gR fr 0 0 lo) 0 0 nA) (hci : vwCl[ci]? = some (C, T, N)) (q0 : Nat) (hb0 : ws[q0]? = some (b, .inr (ci, fs))) (hn : As.length = nA) (hroom : (st.map fun v => v.category).sum ≤ 8) (hf : k ≤ R.cells ∧ n ≤ R.slots) (hd : decode cc pc = .ok (.invokevirtual index, 3)) (hex : c.exceptionTable.toList = []) {wo : va_W} {sz : Nat} {post2 : S → Prop} {postT2 : S → Prop} (hA : A = va_A wo sz) (hQ : Q = gx_MQ below (gx_Qv post2 postT2 x (gq_B D (va_A wo sz) w1 (fun _ => tys)) (va_A wo sz)) args s k n (va_A wo sz)) (kt : ∀ u : S, postT u → postT2 u) (kk : ∀ (r : Int32) (u : S), post r u → gG p l e R s m args below meth c D A nL Q k n (w1 u) tys lv (pc + 3) (.int r :: st)) : gG p l e R s m args below meth c D A nL Q k n ws tys lv pc (As.reverse ++ .ref b :: st) := by
  intro H locs ls hP hD hK hS hl T₀ hT₀ X
  have hFc := va_free (wc := ws) hD hS F.2.2.2.2.2.1 (List.range ws.length) (gu_rm ws)
  have hD0 : va_D (fun _ => True) ws := hD.weaken (fun _ _ _ _ => trivial)
  obtain ⟨oc, st₀, t, T', L, h0, hL, ⟨hq, hz, hk⟩, e1, e2, hX, hret, hthr⟩ := gx_runV (As := As) (rest := st) (g := F0 m pc ls (As.reverse ++ .ref b :: st)) ⟨F.1, F.2.1, F.2.2.1, F.2.2.2.1, F.2.2.2.2.1⟩ (hM H.size) cw ⟨gq_blind, va_recv hK hP hci hb0, gq_pre hP hK hD⟩ rfl hn hl.1 rfl (lv_room hroom) hd hf T₀ hT₀ X
  rw [h0] at hz hk
  have hz1 : H.size ≤ T'.heap.size := by rw [e1]; exact hz
  have hk1 : ∀ q : Nat, q < H.size → ¬ va_A ws H.size q → T'.heap[q]? = H[q]? := fun q a1 a2 => by rw [e1]; exact hk q a1 a2
  have hS1 : va_S A s.heap T'.heap (locs ++ L) := ⟨Nat.le_trans hS.1 hz1, fun q a1 a2 => by rw [hk1 q (Nat.lt_of_lt_of_le a1 hS.1) (fun z => a2 (hFc q z))]; exact hS.2.1 q a1 a2, fun q hq => by
    rcases List.mem_append.mp hq with h | h
    · exact hS.2.2 q h
    · exact hFc _ (hL q h)⟩
  rcases hq with ⟨r, u, hv, hp, hB⟩ | ⟨u, hv, hp, hB⟩
  · subst hv
    have X' := hX (Or.inl ⟨_, rfl⟩)
    obtain ⟨hP1, -, hD1⟩ := hB
    rw [← e1] at hP1
    obtain ⟨t2, a1, b1⟩ := kk r u hp T'.heap (locs ++ L) ls hP1 (hD1.weaken (fun k q _ h => hFc q.1 h)) hK hS1 hl T' rfl X'
    exact ⟨t2, (hret _ rfl).trans a1, b1⟩
  · subst hv
    have X' := hX (Or.inr ⟨_, rfl⟩)
    obtain ⟨hP1, -, hD1⟩ := hB
    rw [← e1] at hP1
    subst hA
    subst hQ
    obtain ⟨hwalk, hrun, hended, hWU, hsame⟩ := X'.leaveThrown x (g := F0 m pc ls st) rfl rfl rfl (by rw [hex]; intro y hy; cases hy) F.2.2.2.2.2.2
    have hh : (T'.setFrames (.throwing x :: below)).heap = T'.heap := rfl
    exact ⟨_, (hthr _ rfl).trans hwalk, .threw x, hrun, hended, ⟨Or.inr ⟨u, rfl, kt u hp, by rw [hh]; exact hP1, va_K.moved hWU.alike hK, hD1.weaken (fun k q _ h => hFc q.1 h)⟩, hS1.F hh⟩, locs ++ L, ⟨hWU, hsame⟩, hS1.2.2⟩
theorem ux_catchi (F : gF p s m args meth c cc own nL Ts A) {y : MethodName} {bytes : ByteArray} {maxL index nA fr lo : Nat} {ret : Option FieldType} {wy : List Cond} {b : Nat} {As : List Value}  {S : Type} {post : Int32 → S → Prop} {postT : S → Prop} {x : Nat} {w1 : S → va_W} (hM : ∀ sz : Nat, Kxi l y wy fr lo D (.ref b :: As) ws tys sz post postT x w1) {C : String} {ci : Nat} {T : u_T} {N : Nat} {fs : List Value} (cw : CallW R s args own C index y bytes maxL ret wy (gR fr 0 0 lo) 0 0 nA) (hci : vwCl[ci]? = some (C, T, N)) (q0 : Nat) (hb0 : ws[q0]? = some (b, .inr (ci, fs))) (hn : As.length = nA) (hroom : (st.map fun v => v.category).sum ≤ 8) (hf : k ≤ R.cells ∧ n ≤ R.slots) (hd : decode cc pc = .ok (.invokevirtual index, 3)) {r0 : ExceptionTableEntry} (htab : c.exceptionTable.toList = [r0]) (hcov : covers r0 pc = true) (hc0 : r0.catchType ≠ 0) {cn : String} (hlink : (Cond.classLink own r0.catchType cn).before args s = true) {cj : Nat} {T2 : u_T} {N2 : Nat} {fs2 : S → List Value} (hcj : vwCl[cj]? = some (cn, T2, N2)) (q2 : Nat) (hx2 : ∀ u : S, (w1 u)[q2]? = some (x, .inr (cj, fs2 u))) (hpc : Nat) (hpc2 : r0.handlerPc = hpc) (kk : ∀ (r : Int32) (u : S), post r u → gG p l e R s m args below meth c D A nL Q k n (w1 u) tys lv (pc + 3) (.int r :: st)) (kt : ∀ u : S, postT u → gG p l e R s m args below meth c D A nL Q k n (w1 u) tys lv hpc [.ref x]) : gG p l e R s m args below meth c D A nL Q k n ws tys lv pc (As.reverse ++ .ref b :: st) := by
  intro H locs ls hP hD hK hS hl T₀ hT₀ X
  have hFc := va_free (wc := ws) hD hS F.2.2.2.2.2.1 (List.range ws.length) (gu_rm ws)
  have hD0 : va_D (fun _ => True) ws := hD.weaken (fun _ _ _ _ => trivial)
  obtain ⟨oc, st₀, t, T', L, h0, hL, ⟨hq, hz, hk⟩, e1, e2, hX, hret, hthr⟩ := gx_runV (As := As) (rest := st) (g := F0 m pc ls (As.reverse ++ .ref b :: st)) ⟨F.1, F.2.1, F.2.2.1, F.2.2.2.1, F.2.2.2.2.1⟩ (hM H.size) cw ⟨gq_blind, va_recv hK hP hci hb0, gq_pre hP hK hD⟩ rfl hn hl.1 rfl (lv_room hroom) hd hf T₀ hT₀ X
  rw [h0] at hz hk
  have hz1 : H.size ≤ T'.heap.size := by rw [e1]; exact hz
  have hk1 : ∀ q : Nat, q < H.size → ¬ va_A ws H.size q → T'.heap[q]? = H[q]? := fun q a1 a2 => by rw [e1]; exact hk q a1 a2
  have hS1 : va_S A s.heap T'.heap (locs ++ L) := ⟨Nat.le_trans hS.1 hz1, fun q a1 a2 => by rw [hk1 q (Nat.lt_of_lt_of_le a1 hS.1) (fun z => a2 (hFc q z))]; exact hS.2.1 q a1 a2, fun q hq => by
    rcases List.mem_append.mp hq with h | h
    · exact hS.2.2 q h
    · exact hFc _ (hL q h)⟩
  rcases hq with ⟨r, u, hv, hp, hB⟩ | ⟨u, hv, hp, hB⟩
  · subst hv
    have X' := hX (Or.inl ⟨_, rfl⟩)
    obtain ⟨hP1, -, hD1⟩ := hB
    rw [← e1] at hP1
    obtain ⟨t2, a1, b1⟩ := kk r u hp T'.heap (locs ++ L) ls hP1 (hD1.weaken (fun k q _ h => hFc q.1 h)) hK hS1 hl T' rfl X'
    exact ⟨t2, (hret _ rfl).trans a1, b1⟩
  · subst hv
    have X' := hX (Or.inr ⟨_, rfl⟩)
    obtain ⟨hP1, -, hD1⟩ := hB
    rw [← e1] at hP1
    have hD2 := hD1.weaken (fun k q _ h => hFc q.1 h)
    obtain ⟨cell, h1, h2, h3⟩ := va_recv hK hP1 hcj (hx2 u)
    obtain ⟨vm', X2, st2⟩ := gt_goes X' (g := F0 m pc ls st) rfl h1 h2 htab hcov hc0 F.2.2.2.1 hlink h3
    subst hpc2
    obtain ⟨t2, a1, b1⟩ := kt u hp (T'.setVm vm').heap (locs ++ L) ls hP1 hD2 hK hS1 hl (T'.setVm vm') rfl X2
    exact ⟨t2, (hthr _ rfl).trans (st2 t2 a1), b1⟩
theorem ux_callvi (F : gF p s m args meth c cc own nL Ts A) {y : MethodName} {bytes : ByteArray} {maxL index nA fr lo : Nat} {ret : Option FieldType} {wy : List Cond} {b : Nat} {As : List Value}  {S : Type} {post : S → Prop} {postT : S → Prop} {x : Nat} {w1 : S → va_W} (hM : ∀ sz : Nat, Kxv l y wy fr lo D (.ref b :: As) ws tys sz post postT x w1) {C : String} {ci : Nat} {T : u_T} {N : Nat} {fs : List Value} (cw : CallW R s args own C index y bytes maxL ret wy (gR fr 0 0 lo) 0 0 nA) (hci : vwCl[ci]? = some (C, T, N)) (q0 : Nat) (hb0 : ws[q0]? = some (b, .inr (ci, fs))) (hn : As.length = nA) (hroom : (st.map fun v => v.category).sum ≤ 8) (hf : k ≤ R.cells ∧ n ≤ R.slots) (hd : decode cc pc = .ok (.invokevirtual index, 3)) (hex : c.exceptionTable.toList = []) {wo : va_W} {sz : Nat} {post2 : Int32 → S → Prop} {postT2 : S → Prop} (hA : A = va_A wo sz) (hQ : Q = gx_MQ below (gx_Qi post2 postT2 x (gq_B D (va_A wo sz) w1 (fun _ => tys)) (va_A wo sz)) args s k n (va_A wo sz)) (kt : ∀ u : S, postT u → postT2 u) (kk : ∀ (u : S), post u → gG p l e R s m args below meth c D A nL Q k n (w1 u) tys lv (pc + 3) st) : gG p l e R s m args below meth c D A nL Q k n ws tys lv pc (As.reverse ++ .ref b :: st) := by
  intro H locs ls hP hD hK hS hl T₀ hT₀ X
  have hFc := va_free (wc := ws) hD hS F.2.2.2.2.2.1 (List.range ws.length) (gu_rm ws)
  have hD0 : va_D (fun _ => True) ws := hD.weaken (fun _ _ _ _ => trivial)
  obtain ⟨oc, st₀, t, T', L, h0, hL, ⟨hq, hz, hk⟩, e1, e2, hX, hret, hthr⟩ := gx_runV (As := As) (rest := st) (g := F0 m pc ls (As.reverse ++ .ref b :: st)) ⟨F.1, F.2.1, F.2.2.1, F.2.2.2.1, F.2.2.2.2.1⟩ (hM H.size) cw ⟨gq_blind, va_recv hK hP hci hb0, gq_pre hP hK hD⟩ rfl hn hl.1 rfl (lv_room hroom) hd hf T₀ hT₀ X
  rw [h0] at hz hk
  have hz1 : H.size ≤ T'.heap.size := by rw [e1]; exact hz
  have hk1 : ∀ q : Nat, q < H.size → ¬ va_A ws H.size q → T'.heap[q]? = H[q]? := fun q a1 a2 => by rw [e1]; exact hk q a1 a2
  have hS1 : va_S A s.heap T'.heap (locs ++ L) := ⟨Nat.le_trans hS.1 hz1, fun q a1 a2 => by rw [hk1 q (Nat.lt_of_lt_of_le a1 hS.1) (fun z => a2 (hFc q z))]; exact hS.2.1 q a1 a2, fun q hq => by
    rcases List.mem_append.mp hq with h | h
    · exact hS.2.2 q h
    · exact hFc _ (hL q h)⟩
  rcases hq with ⟨u, hv, hp, hB⟩ | ⟨u, hv, hp, hB⟩
  · subst hv
    have X' := hX (Or.inl ⟨_, rfl⟩)
    obtain ⟨hP1, -, hD1⟩ := hB
    rw [← e1] at hP1
    obtain ⟨t2, a1, b1⟩ := kk u hp T'.heap (locs ++ L) ls hP1 (hD1.weaken (fun k q _ h => hFc q.1 h)) hK hS1 hl T' rfl X'
    exact ⟨t2, (hret _ rfl).trans a1, b1⟩
  · subst hv
    have X' := hX (Or.inr ⟨_, rfl⟩)
    obtain ⟨hP1, -, hD1⟩ := hB
    rw [← e1] at hP1
    subst hA
    subst hQ
    obtain ⟨hwalk, hrun, hended, hWU, hsame⟩ := X'.leaveThrown x (g := F0 m pc ls st) rfl rfl rfl (by rw [hex]; intro y hy; cases hy) F.2.2.2.2.2.2
    have hh : (T'.setFrames (.throwing x :: below)).heap = T'.heap := rfl
    exact ⟨_, (hthr _ rfl).trans hwalk, .threw x, hrun, hended, ⟨Or.inr ⟨u, rfl, kt u hp, by rw [hh]; exact hP1, va_K.moved hWU.alike hK, hD1.weaken (fun k q _ h => hFc q.1 h)⟩, hS1.F hh⟩, locs ++ L, ⟨hWU, hsame⟩, hS1.2.2⟩
theorem ux_callvv (F : gF p s m args meth c cc own nL Ts A) {y : MethodName} {bytes : ByteArray} {maxL index nA fr lo : Nat} {ret : Option FieldType} {wy : List Cond} {b : Nat} {As : List Value}  {S : Type} {post : S → Prop} {postT : S → Prop} {x : Nat} {w1 : S → va_W} (hM : ∀ sz : Nat, Kxv l y wy fr lo D (.ref b :: As) ws tys sz post postT x w1) {C : String} {ci : Nat} {T : u_T} {N : Nat} {fs : List Value} (cw : CallW R s args own C index y bytes maxL ret wy (gR fr 0 0 lo) 0 0 nA) (hci : vwCl[ci]? = some (C, T, N)) (q0 : Nat) (hb0 : ws[q0]? = some (b, .inr (ci, fs))) (hn : As.length = nA) (hroom : (st.map fun v => v.category).sum ≤ 8) (hf : k ≤ R.cells ∧ n ≤ R.slots) (hd : decode cc pc = .ok (.invokevirtual index, 3)) (hex : c.exceptionTable.toList = []) {wo : va_W} {sz : Nat} {post2 : S → Prop} {postT2 : S → Prop} (hA : A = va_A wo sz) (hQ : Q = gx_MQ below (gx_Qv post2 postT2 x (gq_B D (va_A wo sz) w1 (fun _ => tys)) (va_A wo sz)) args s k n (va_A wo sz)) (kt : ∀ u : S, postT u → postT2 u) (kk : ∀ (u : S), post u → gG p l e R s m args below meth c D A nL Q k n (w1 u) tys lv (pc + 3) st) : gG p l e R s m args below meth c D A nL Q k n ws tys lv pc (As.reverse ++ .ref b :: st) := by
  intro H locs ls hP hD hK hS hl T₀ hT₀ X
  have hFc := va_free (wc := ws) hD hS F.2.2.2.2.2.1 (List.range ws.length) (gu_rm ws)
  have hD0 : va_D (fun _ => True) ws := hD.weaken (fun _ _ _ _ => trivial)
  obtain ⟨oc, st₀, t, T', L, h0, hL, ⟨hq, hz, hk⟩, e1, e2, hX, hret, hthr⟩ := gx_runV (As := As) (rest := st) (g := F0 m pc ls (As.reverse ++ .ref b :: st)) ⟨F.1, F.2.1, F.2.2.1, F.2.2.2.1, F.2.2.2.2.1⟩ (hM H.size) cw ⟨gq_blind, va_recv hK hP hci hb0, gq_pre hP hK hD⟩ rfl hn hl.1 rfl (lv_room hroom) hd hf T₀ hT₀ X
  rw [h0] at hz hk
  have hz1 : H.size ≤ T'.heap.size := by rw [e1]; exact hz
  have hk1 : ∀ q : Nat, q < H.size → ¬ va_A ws H.size q → T'.heap[q]? = H[q]? := fun q a1 a2 => by rw [e1]; exact hk q a1 a2
  have hS1 : va_S A s.heap T'.heap (locs ++ L) := ⟨Nat.le_trans hS.1 hz1, fun q a1 a2 => by rw [hk1 q (Nat.lt_of_lt_of_le a1 hS.1) (fun z => a2 (hFc q z))]; exact hS.2.1 q a1 a2, fun q hq => by
    rcases List.mem_append.mp hq with h | h
    · exact hS.2.2 q h
    · exact hFc _ (hL q h)⟩
  rcases hq with ⟨u, hv, hp, hB⟩ | ⟨u, hv, hp, hB⟩
  · subst hv
    have X' := hX (Or.inl ⟨_, rfl⟩)
    obtain ⟨hP1, -, hD1⟩ := hB
    rw [← e1] at hP1
    obtain ⟨t2, a1, b1⟩ := kk u hp T'.heap (locs ++ L) ls hP1 (hD1.weaken (fun k q _ h => hFc q.1 h)) hK hS1 hl T' rfl X'
    exact ⟨t2, (hret _ rfl).trans a1, b1⟩
  · subst hv
    have X' := hX (Or.inr ⟨_, rfl⟩)
    obtain ⟨hP1, -, hD1⟩ := hB
    rw [← e1] at hP1
    subst hA
    subst hQ
    obtain ⟨hwalk, hrun, hended, hWU, hsame⟩ := X'.leaveThrown x (g := F0 m pc ls st) rfl rfl rfl (by rw [hex]; intro y hy; cases hy) F.2.2.2.2.2.2
    have hh : (T'.setFrames (.throwing x :: below)).heap = T'.heap := rfl
    exact ⟨_, (hthr _ rfl).trans hwalk, .threw x, hrun, hended, ⟨Or.inr ⟨u, rfl, kt u hp, by rw [hh]; exact hP1, va_K.moved hWU.alike hK, hD1.weaken (fun k q _ h => hFc q.1 h)⟩, hS1.F hh⟩, locs ++ L, ⟨hWU, hsame⟩, hS1.2.2⟩
theorem ux_catchv (F : gF p s m args meth c cc own nL Ts A) {y : MethodName} {bytes : ByteArray} {maxL index nA fr lo : Nat} {ret : Option FieldType} {wy : List Cond} {b : Nat} {As : List Value}  {S : Type} {post : S → Prop} {postT : S → Prop} {x : Nat} {w1 : S → va_W} (hM : ∀ sz : Nat, Kxv l y wy fr lo D (.ref b :: As) ws tys sz post postT x w1) {C : String} {ci : Nat} {T : u_T} {N : Nat} {fs : List Value} (cw : CallW R s args own C index y bytes maxL ret wy (gR fr 0 0 lo) 0 0 nA) (hci : vwCl[ci]? = some (C, T, N)) (q0 : Nat) (hb0 : ws[q0]? = some (b, .inr (ci, fs))) (hn : As.length = nA) (hroom : (st.map fun v => v.category).sum ≤ 8) (hf : k ≤ R.cells ∧ n ≤ R.slots) (hd : decode cc pc = .ok (.invokevirtual index, 3)) {r0 : ExceptionTableEntry} (htab : c.exceptionTable.toList = [r0]) (hcov : covers r0 pc = true) (hc0 : r0.catchType ≠ 0) {cn : String} (hlink : (Cond.classLink own r0.catchType cn).before args s = true) {cj : Nat} {T2 : u_T} {N2 : Nat} {fs2 : S → List Value} (hcj : vwCl[cj]? = some (cn, T2, N2)) (q2 : Nat) (hx2 : ∀ u : S, (w1 u)[q2]? = some (x, .inr (cj, fs2 u))) (hpc : Nat) (hpc2 : r0.handlerPc = hpc) (kk : ∀ (u : S), post u → gG p l e R s m args below meth c D A nL Q k n (w1 u) tys lv (pc + 3) st) (kt : ∀ u : S, postT u → gG p l e R s m args below meth c D A nL Q k n (w1 u) tys lv hpc [.ref x]) : gG p l e R s m args below meth c D A nL Q k n ws tys lv pc (As.reverse ++ .ref b :: st) := by
  intro H locs ls hP hD hK hS hl T₀ hT₀ X
  have hFc := va_free (wc := ws) hD hS F.2.2.2.2.2.1 (List.range ws.length) (gu_rm ws)
  have hD0 : va_D (fun _ => True) ws := hD.weaken (fun _ _ _ _ => trivial)
  obtain ⟨oc, st₀, t, T', L, h0, hL, ⟨hq, hz, hk⟩, e1, e2, hX, hret, hthr⟩ := gx_runV (As := As) (rest := st) (g := F0 m pc ls (As.reverse ++ .ref b :: st)) ⟨F.1, F.2.1, F.2.2.1, F.2.2.2.1, F.2.2.2.2.1⟩ (hM H.size) cw ⟨gq_blind, va_recv hK hP hci hb0, gq_pre hP hK hD⟩ rfl hn hl.1 rfl (lv_room hroom) hd hf T₀ hT₀ X
  rw [h0] at hz hk
  have hz1 : H.size ≤ T'.heap.size := by rw [e1]; exact hz
  have hk1 : ∀ q : Nat, q < H.size → ¬ va_A ws H.size q → T'.heap[q]? = H[q]? := fun q a1 a2 => by rw [e1]; exact hk q a1 a2
  have hS1 : va_S A s.heap T'.heap (locs ++ L) := ⟨Nat.le_trans hS.1 hz1, fun q a1 a2 => by rw [hk1 q (Nat.lt_of_lt_of_le a1 hS.1) (fun z => a2 (hFc q z))]; exact hS.2.1 q a1 a2, fun q hq => by
    rcases List.mem_append.mp hq with h | h
    · exact hS.2.2 q h
    · exact hFc _ (hL q h)⟩
  rcases hq with ⟨u, hv, hp, hB⟩ | ⟨u, hv, hp, hB⟩
  · subst hv
    have X' := hX (Or.inl ⟨_, rfl⟩)
    obtain ⟨hP1, -, hD1⟩ := hB
    rw [← e1] at hP1
    obtain ⟨t2, a1, b1⟩ := kk u hp T'.heap (locs ++ L) ls hP1 (hD1.weaken (fun k q _ h => hFc q.1 h)) hK hS1 hl T' rfl X'
    exact ⟨t2, (hret _ rfl).trans a1, b1⟩
  · subst hv
    have X' := hX (Or.inr ⟨_, rfl⟩)
    obtain ⟨hP1, -, hD1⟩ := hB
    rw [← e1] at hP1
    have hD2 := hD1.weaken (fun k q _ h => hFc q.1 h)
    obtain ⟨cell, h1, h2, h3⟩ := va_recv hK hP1 hcj (hx2 u)
    obtain ⟨vm', X2, st2⟩ := gt_goes X' (g := F0 m pc ls st) rfl h1 h2 htab hcov hc0 F.2.2.2.1 hlink h3
    subst hpc2
    obtain ⟨t2, a1, b1⟩ := kt u hp (T'.setVm vm').heap (locs ++ L) ls hP1 hD2 hK hS1 hl (T'.setVm vm') rfl X2
    exact ⟨t2, (hthr _ rfl).trans (st2 t2 a1), b1⟩
end GXT
