theorem va_AOA.spec {U : State} (h : va_AOA .int U) : ∃ comp c k, U.vm.findClass (FieldType.array .int).toString = some comp ∧ (U.vm.classes.findIdx? fun (x : Class) => match x.kind with | .array component _ => component == comp | _ => false) = some c ∧ U.vm.classes[c]? = some k ∧ k.kind = .array comp (.array .int) ∧ U.vm.findClass ("[" ++ (FieldType.array .int).toString) = some c := by
  unfold va_AOA Cond.before at h
  simp only [Cond.holds, Cond.value, beq_iff_eq] at h
  cases hc : U.vm.findClass (FieldType.array .int).toString with
  | none => simp [hc] at h
  | some comp =>
    simp only [hc, Option.bind_some, Option.bind_eq_some_iff, Option.map_eq_some_iff] at h
    obtain ⟨c, hi, k, hk, hb⟩ := h
    obtain ⟨hlt, hp, -⟩ := Array.findIdx?_eq_some_iff_getElem.mp hi
    have hkk : U.vm.classes[c] = k := (Array.getElem?_eq_some_iff.mp hk).2
    rw [hkk] at hp
    cases hkind : k.kind with
    | array component ty =>
      rw [hkind] at hb hp
      simp at hb hp
      exact ⟨comp, c, k, rfl, hi, hk, by rw [hkind, hp, hb.1], hb.2⟩
    | _ => rw [hkind] at hb; simp at hb
theorem va_AOA.moved {u U : State} (hvm : u.vm.Alike U.vm) (h : va_AOA .int u) : va_AOA .int U := by
  obtain ⟨comp, c, k, h1, h2, h3, h4, h5⟩ := va_AOA.spec h
  obtain ⟨k', hk', he⟩ := hvm.2.2 _ _ h3
  have hi : (U.vm.classes.findIdx? fun (x : Class) => match x.kind with | .array component _ => component == comp | _ => false) = some c := by
    have hb : U.vm.bare = u.vm.bare := by first | exact hvm.bare_eq | exact hvm.bare_eq.symm
    have a1 := va_idx_bare U.vm comp
    rw [hb] at a1
    exact a1.symm.trans ((va_idx_bare u.vm comp).trans h2)
  have hkind : k'.kind = .array comp (.array .int) := by rw [he]; exact h4
  have f1 : U.vm.findClass (FieldType.array .int).toString = some comp := by rw [hvm.findClass]; exact h1
  have f2 : U.vm.findClass ("[" ++ (FieldType.array .int).toString) = some c := by rw [hvm.findClass]; exact h5
  unfold va_AOA Cond.before Cond.holds
  simp only [Cond.value]
  rw [f1, Option.bind_some]
  refine (congrArg (fun o : Option Nat => (o.bind (fun c => (U.vm.classes[c]?).map fun (k : Class) => match k.kind with | .array _ ty => decide (ty = FieldType.array .int) && decide (U.vm.findClass ("[" ++ (FieldType.array .int).toString) = some c) | _ => false) == some true)) hi).trans ?_
  simp [hk', hkind, f2]
def gz_untold : Nat → Int32 := fun j => if j = 0 then 8 else if j = 1 then 3 else if j = 2 then 4 else if j = 3 then 8 else if j = 4 then 8 else if j = 5 then 2 else if j = 6 then 2 else if j = 7 then 500 else if j = 8 then 20 else if j = 9 then 4 else if j = 10 then 1 else if j = 11 then 1 else 0
/-- what stands in the static row of untold numbers -/
def gz_U (t : Nat) (A : Nat → Prop) (U : State) (H : Heap) : Prop := va_Z "QuietCut$Shop" "UNTOLD" "[I" (.ref t) A U H ∧ va_T .int t 12 (fun j => .int (gz_untold j)) A U H ∧ t < H.size ∧ ¬ A t ∧ va_AOA .int U ∧ va_Nw (.methodLinkNest RX11 11 yX10_init "QuietCut") U ∧ va_Nw (.methodLinkNest RX11 80 yX9_init "QuietCut") U ∧ va_Nw (.methodLinkNest RX7 17 yX3_init "QuietCut") U ∧ va_Zq "java/lang/Throwable" "UNASSIGNED_STACK" "[Ljava/lang/StackTraceElement;" A U H ∧ va_Zq "java/lang/Throwable" "SUPPRESSED_SENTINEL" "Ljava/util/List;" A U H
theorem gz_U.to {t : Nat} {A B : Nat → Prop} {s U : State} {H : Heap} {locs : List Loc} (h : gz_U t A s s.heap) (hS : va_S A s.heap H locs) (hAB : ∀ q, B q → A q) (hW : s.WarmedH U.vm) : gz_U t B U H := by
  have hvm := hW.alike
  refine ⟨((h.1.kept (fun a h1 h2 => hS.2.1 a h1 h2)).narrow hAB).moved hvm, (((h.2.1.kept (fun a h1 h2 => hS.2.1 a h1 h2)).narrow hAB).moved hvm), Nat.lt_of_lt_of_le h.2.2.1 hS.1, fun q => h.2.2.2.1 (hAB t q), va_AOA.moved hvm h.2.2.2.2.1, va_Nw.warmM hW h.2.2.2.2.2.1, va_Nw.warmM hW h.2.2.2.2.2.2.1, va_Nw.warmM hW h.2.2.2.2.2.2.2.1, ((h.2.2.2.2.2.2.2.2.1.kept (fun a h1 h2 => hS.2.1 a h1 h2)).narrow hAB).moved hvm, ((h.2.2.2.2.2.2.2.2.2.kept (fun a h1 h2 => hS.2.1 a h1 h2)).narrow hAB).moved hvm⟩
def gq_Uz (D : va_G) (ws : va_W) (tys : List (ClassId × FieldType)) (t : Nat) (sz : Nat) (U : State) : Prop := gq_U D ws tys sz U ∧ gz_U t (va_A ws sz) U U.heap
def Kiz {S : Type} (l : Launch) (y : MethodName) (wy : List Cond) (fr lo mc ms : Nat) (D : va_G) (t : Nat) (av : List Value) (wc : va_W) (tc : List (ClassId × FieldType)) (sz : Nat) (post : Int32 → S → Prop) (w1 : S → va_W) (t1 : S → List (ClassId × FieldType)) : Prop := Met l y wy (gR fr mc ms lo) (va_Pc av (gq_Uz D wc tc t sz)) (va_Qi post (gq_B D (va_A wc sz) w1 t1) (va_A wc sz)) mc ms (va_A wc sz)
def Kvz {S : Type} (l : Launch) (y : MethodName) (wy : List Cond) (fr lo mc ms : Nat) (D : va_G) (t : Nat) (av : List Value) (wc : va_W) (tc : List (ClassId × FieldType)) (sz : Nat) (post : S → Prop) (w1 : S → va_W) (t1 : S → List (ClassId × FieldType)) : Prop := Met l y wy (gR fr mc ms lo) (va_Pc av (gq_Uz D wc tc t sz)) (va_Qv post (gq_B D (va_A wc sz) w1 t1) (va_A wc sz)) mc ms (va_A wc sz)
theorem gq_blindz {av : List Value} {D : va_G} {ws : va_W} {tys : List (ClassId × FieldType)} {t sz : Nat} : FrameBlind (va_Pc av (gq_Uz D ws tys t sz)) := fun a U g mk q => ⟨q.1, ⟨q.2.1.1, q.2.1.2.1, va_K.moved (u := U) (U := U.calling g mk a) (Vm.Alike.refl U.vm) q.2.1.2.2.1, q.2.1.2.2.2⟩, q.2.2.1.moved (U := U.calling g mk a) (Vm.Alike.refl U.vm), va_T.moved (U := U.calling g mk a) (Vm.Alike.refl U.vm) q.2.2.2.1, q.2.2.2.2.1, q.2.2.2.2.2.1, va_AOA.moved (U := U.calling g mk a) (Vm.Alike.refl U.vm) q.2.2.2.2.2.2.1, va_Nw.same rfl rfl q.2.2.2.2.2.2.2.1, va_Nw.same rfl rfl q.2.2.2.2.2.2.2.2.1, va_Nw.same rfl rfl q.2.2.2.2.2.2.2.2.2.1, q.2.2.2.2.2.2.2.2.2.2.1.moved (U := U.calling g mk a) (Vm.Alike.refl U.vm), q.2.2.2.2.2.2.2.2.2.2.2.moved (U := U.calling g mk a) (Vm.Alike.refl U.vm)⟩
section GZ
variable {p : Program} {l : Launch} {e : Env} {R : Room} {s : State} {m : MethodId} {args : Array Value} {below : List Frame} {meth : Method} {c : Code} {cc : ByteArray} {own : String} {nL : Nat} {Ts : List Cond} {D : va_G} {A : Nat → Prop} {Q : State → Prop} {k n : Nat} {ws ws' : va_W} {tys : List (ClassId × FieldType)} {lv lv' : List (Nat × Value)} {pc : Nat} {st : List Value}
/-- a copy out of a row that is longer than what is told of it -/
theorem gz_copy {H : Heap} {locs : List Loc} {cells slots : Nat} {cl : List vw_C} {ls : Array Slot} {rest : List Value} {a : Nat} (hexec : p.tables.exec = Jvm.exec) (hb : c.code = cc) (hml : c.maxLocals = ls.size) {index : Nat} (hown : s.vm.findClass own = some m.cls) (hlink : (Cond.methodLink own index arraycopyName).before args s = true) (hnat : (Cond.native arraycopyName).before args s = true) (hstat : (Cond.static arraycopyName).before args s = true) (hini : (Cond.initialized "java/lang/System").before args s = true)
    (hK : va_K D cl tys s) (hP : va_P D cl ws H) (hD : va_D A ws) (hS : va_S A s.heap H locs) {t n0 : Nat} {f : Nat → Int32} (hT : va_T .int t n0 (fun j => .int (f j)) A s s.heap) (htl : t < s.heap.size) (htA : ¬ A t) (q1 t1 : Nat) {c1 : ClassId} {n1 : Nat} {g : Nat → Int32} (ha1 : ws[q1]? = some (a, .inl (c1, n1, .inl g))) (ht1 : tys[t1]? = some (c1, .int))
    {sp dp z : Int32} (h1 : ¬ sp < 0) (h2 : ¬ dp < 0) (h3 : ¬ z < 0) (h4 : sp.toNatClampNeg + z.toNatClampNeg ≤ n0) (h5 : dp.toNatClampNeg + z.toNatClampNeg ≤ n1)
    (hframes : 1 ≤ R.frames) (hlocals : (rest.map fun v => v.category).sum + (nativeFrameWords "java/lang/System" "arraycopy" 5 + 11) ≤ R.locals) (hdg : decode cc pc = .ok (.invokestatic index, 3))
    (kk : ∀ (H1 : Heap) (locs1 : List Loc), va_P D cl (ws.set q1 (a, .inl (c1, n1, .inl (va_cpy f g sp.toNatClampNeg dp.toNatClampNeg z.toNatClampNeg)))) H1 → va_D A (ws.set q1 (a, .inl (c1, n1, .inl (va_cpy f g sp.toNatClampNeg dp.toNatClampNeg z.toNatClampNeg)))) → va_S A s.heap H1 locs1 → W p l e R s m args below meth c H1 locs1 cells slots Q (F0 m (pc + 3) ls rest)) : W p l e R s m args below meth c H locs cells slots Q (F0 m pc ls (.int z :: .int dp :: .ref a :: .int sp :: .ref t :: rest)) := by
  have nn : ∀ y : Int32, ¬ y < 0 → y.toInt = (y.toNatClampNeg : Int) := by
    intro y hy
    have h0 : (0 : Int) ≤ y.toInt := by simpa using Int32.le_iff_toInt_le.mp (Int32.not_lt.mp hy)
    show y.toInt = ((y.toInt.toNat : Nat) : Int)
    omega
  intro T hT0 X
  obtain ⟨row, r1, r2, r3, r4, -, r6, -⟩ := hT
  have hc0 : H[t]? = some row := by rw [hS.2.1 t htl htA]; exact r1
  have hc1 : H[a]? = some (vp_cell c1 (n1, .inl g)) := hP q1 _ ha1
  obtain ⟨r7, k0, hk0, cm0, hkk0⟩ := r2
  obtain ⟨-, k1, hk1, cm1, hkk1⟩ := (hK.2 t1 _ ht1).1 n1 (fun j => .int (g j))
  obtain ⟨vm', X', step⟩ := X.arraycopy hexec hown hlink hnat hstat hini (src := t) (dst := a) (cs := row) (cd := vp_cell c1 (n1, .inl g)) (srcPos := sp) (destPos := dp) (n := z) (by rw [hT0]; exact hc0) (by rw [hT0]; exact hc1)
    r7 (fun _ h => by cases h) r3 (fun h => by cases h) hk0 hk1 hkk0 hkk1 (by simp [refKind]) h1 h2 h3
    (by rw [nn sp h1, nn z h3]; omega)
    (by rw [nn dp h2, nn z h3]; show ¬ _ > ((arrV c1 n1 (fun j => .int (g j))).slots.size : Int); rw [arrV_size]; omega)
    (fun vm₁ _ i hi => by
      have e0 : row.slots.getD (sp.toNatClampNeg + i) .null = .int (f (sp.toNatClampNeg + i)) := by
        rw [Array.getD_eq_getD_getElem?, r6 _ (by omega)]
        rfl
      exact ⟨by rw [e0]; rfl, by rw [e0]; exact trivial⟩)
    (g := F0 m pc ls (.int z :: .int dp :: .ref a :: .int sp :: .ref t :: rest)) rfl (by rw [hml]) (rest := rest) rfl (by rw [hb]; exact hdg) hframes (by show 2 * 0 + _ + _ ≤ _; omega)
  have e1 : copied row (vp_cell c1 (n1, .inl g)) sp dp z = vp_cell c1 (n1, .inl (va_cpy f g sp.toNatClampNeg dp.toNatClampNeg z.toNatClampNeg)) := va_copiedX (fun z => .int z) row c1 f g r6 h4
  rw [e1] at X' step
  have hl : a < H.size := (Array.getElem?_eq_some_iff.mp hc1).1
  generalize hnew : vp_cell c1 (n1, .inl (va_cpy f g sp.toNatClampNeg dp.toNatClampNeg z.toNatClampNeg)) = new at X' step
  have hheap : ((T.setVm vm').setCell a new).heap = H.setIfInBounds a new := by rw [← hT0]; rfl
  have oq : ∀ q : Nat, q ≠ a → (H.setIfInBounds a new)[q]? = H[q]? := fun q hq => by simp [Array.getElem?_setIfInBounds, Ne.symm hq]
  obtain ⟨t9, a9, b9⟩ := kk _ _ (hP.set hD ha1 (show (H.setIfInBounds a new)[a]? = some _ by rw [hnew]; simp [Array.getElem?_setIfInBounds, hl]) oq) (hD.set ha1) ⟨by simp; exact hS.1, fun q g1 g2 => by
      rw [oq q (fun e => g2 (by rw [e]; exact hD.2 q1 _ ha1))]
      exact hS.2.1 q g1 g2, fun q hq => by
      rcases List.mem_append.mp hq with h | h
      · exact hS.2.2 q h
      · obtain ⟨y, -, hy⟩ := List.mem_map.mp h
        rw [← hy]
        exact hD.2 q1 _ ha1⟩ _ hheap X'
  exact ⟨t9, step t9 a9, b9⟩
theorem g_untold (F : gF p s m args meth c cc own nL Ts A) {t index : Nat} (Z : gz_U t A s s.heap) (hlink : (Cond.fieldLink own index "QuietCut$Shop" "UNTOLD" "[I").before args s = true) (hd : decode cc pc = .ok (.getstatic index, 3)) (kk : gG p l e R s m args below meth c D A nL Q k n ws tys lv (pc + 3) (.ref t :: st)) : gG p l e R s m args below meth c D A nL Q k n ws tys lv pc st := fun H locs ls hP hD hK hS hl => va_gets F.1 F.2.1 Z.1 hS F.2.2.2.1 hlink (fun _ h9 => h9) hd (kk H locs ls hP hD hK hS hl)
theorem g_untoldLen (F : gF p s m args meth c cc own nL Ts A) {t : Nat} (Z : gz_U t A s s.heap) (hd : decode cc pc = .ok (.arraylength, 1)) (kk : gG p l e R s m args below meth c D A nL Q k n ws tys lv (pc + 1) (.int 12 :: st)) : gG p l e R s m args below meth c D A nL Q k n ws tys lv pc (.ref t :: st) := fun H locs ls hP hD hK hS hl => va_tlen F.1 F.2.1 Z.2.1 hS rfl hd (kk H locs ls hP hD hK hS hl)
theorem g_copyx (F : gF p s m args meth c cc own nL Ts A) {t index : Nat} (Z : gz_U t A s s.heap) (hlink : (Cond.methodLink own index arraycopyName).before args s = true) (hnat : (Cond.native arraycopyName).before args s = true) (hstat : (Cond.static arraycopyName).before args s = true) (hini : (Cond.initialized "java/lang/System").before args s = true) (q1 t1 : Nat) {a : Nat} {c1 : ClassId} {n1 : Nat} {g : Nat → Int32} (ha1 : ws[q1]? = some (a, .inl (c1, n1, .inl g))) (ht1 : tys[t1]? = some (c1, .int)) {sp dp z : Int32} (h1 : ¬ sp < 0) (h2 : ¬ dp < 0) (h3 : ¬ z < 0) (h4 : sp.toNatClampNeg + z.toNatClampNeg ≤ 12) (h5 : dp.toNatClampNeg + z.toNatClampNeg ≤ n1) (hfr : 1 ≤ R.frames) (hlo : (st.map fun v => v.category).sum + (nativeFrameWords "java/lang/System" "arraycopy" 5 + 11) ≤ R.locals) (ws' : va_W) (hws : ws.set q1 (a, .inl (c1, n1, .inl (va_cpy gz_untold g sp.toNatClampNeg dp.toNatClampNeg z.toNatClampNeg))) = ws') (hd : decode cc pc = .ok (.invokestatic index, 3)) (kk : gG p l e R s m args below meth c D A nL Q k n ws' tys lv (pc + 3) st) : gG p l e R s m args below meth c D A nL Q k n ws tys lv pc (.int z :: .int dp :: .ref a :: .int sp :: .ref t :: st) := fun H locs ls hP hD hK hS hl => gz_copy F.1 F.2.1 (by rw [F.2.2.1]; exact hl.1.symm) F.2.2.2.1 hlink hnat hstat hini hK hP hD hS Z.2.1 Z.2.2.1 Z.2.2.2.1 q1 t1 ha1 ht1 h1 h2 h3 h4 h5 hfr hlo hd (fun H1 locs1 hP1 hD1 hS1 => kk H1 locs1 ls (hws ▸ hP1) (hws ▸ hD1) hK hS1 hl)
theorem g_aald (F : gF p s m args meth c cc own nL Ts A) (q0 t0 : Nat) {a : Nat} {cA : ClassId} {z : Nat} {f : Nat → Option Nat} (ha : ws[q0]? = some (a, .inl (cA, z, .inr (.inr (.inr (.inr f)))))) (ht : tys[t0]? = some (cA, .array .int)) {i : Int32} (hin : vp_in i z) {b : Nat} (hb : f i.toNatClampNeg = some b) (hd : decode cc pc = .ok (.aaload, 1)) (kk : gG p l e R s m args below meth c D A nL Q k n ws tys lv (pc + 1) (.ref b :: st)) : gG p l e R s m args below meth c D A nL Q k n ws tys lv pc (.int i :: .ref a :: st) := by
  intro H locs ls hP hD hK hS hl
  have hlt : i.toNatClampNeg < z := Nat.not_le.mp fun q => hin (Or.inr q)
  refine W.aald (v := va_rf (f i.toNatClampNeg)) (ty := .array .int) F.1 F.2.1 (hP q0 _ ha) ((hK.2 t0 _ ht).1 z (fun j => va_rf (f j))) rfl (fun q => by cases q) (by show ¬ (i < 0 ∨ (arrV _ _ _).slots.size ≤ _); rw [arrV_size]; exact hin) (by show (arrV _ _ _).slots[_]? = _; rw [arrV_read _ _ hlt]) rfl rfl hd ?_
  rw [hb]
  exact kk H locs ls hP hD hK hS hl
theorem g_mna (F : gF p s m args meth c cc own nL Ts A) {index : Nat} (t0 t1 : Nat) {cI cII : ClassId} (ht : tys[t0]? = some (cI, .int)) (ht1 : tys[t1]? = some (cII, .array .int)) {cn : String} (hcn : (("[" : String) ++ (FieldType.array .int).toString) = cn) (hclink : (Cond.classLink own index cn).before args s = true) {t : Nat} (Z : gz_U t A s s.heap) (harr : (Cond.arrayClass .int).before args s = true) {z y : Int32} (N' K' J : Nat) (hJ : J ≤ N') (hn : ¬ z < 0) (hk : ¬ y < 0) (hN : z.toNatClampNeg = N') (hM : y.toNatClampNeg = K') (hb1 : N' * 4 ≤ 536870912) (hb2 : K' * componentBytes .int ≤ 536870912) (hb3 : K' ≤ 536870912) (hcells : k + (1 + N') ≤ R.cells) (hslots : n + (N' + N' * K') ≤ R.slots) (hd : decode cc pc = .ok (.multianewarray index 2, 4)) (kk : ∀ (q : Nat) (rr : Nat → Nat), gG p l e R s m args below meth c D A nL Q (k + 1 + N') (n + N' + N' * K') ((ws ++ [(q, .inl (cII, N', .inr (.inr (.inr (.inr (fun i => if i < N' then some (rr i) else none))))))]) ++ (List.range J).map (fun i => (rr i, .inl (cI, K', .inl (fun _ => 0))))) tys lv (pc + 4) (.ref q :: st)) : gG p l e R s m args below meth c D A nL Q k n ws tys lv pc (.int y :: .int z :: st) := by
  intro H locs ls hP hD hK hS hl
  refine va_mna (X := ws) (L := []) (f := fun _ => .inr (0, [])) (ty := .int) (cy := cI) (z := (K', .inl (fun _ => 0))) F.1 F.2.1 F.2.2.2.1 (by rw [hcn]; exact hclink) Z.2.2.2.2.1 harr ((hK.2 t0 _ ht).2) hK (by simpa [va_pl] using hP) (by simpa [va_pl] using hD) hS F.2.2.2.2.2.1 hn hk hN hM hb1 hb2 hb3 rfl rfl hcells hslots (fun c9 => ?_) hd (fun q rr cA H1 hr1 hr2 hK1 hP1 hD1 hS1 => ?_)
  · show ({ cls := c9, slots := Array.replicate K' (defaultValue .int), vm := .none } : Cell) = vp_cell c9 (K', .inl (fun _ => 0))
    rw [arrV_new]
    rfl
  · have e1 := gq_same (fun C h => by cases h) hK1 ht1
    subst e1
    have hget : ∀ (i : Nat) (x : Nat × va_E), (((ws ++ [(q, .inl (cA, N', .inr (.inr (.inr (.inr (fun i => if i < N' then some (rr i) else none))))))]) ++ (List.range J).map (fun i => (rr i, (.inl (cI, K', .inl (fun _ => 0)) : va_E)))))[i]? = some x → (((ws ++ [(q, .inl (cA, N', .inr (.inr (.inr (.inr (fun i => if i < N' then some (rr i) else none))))))]) ++ va_pl ([] ++ (List.range N').map rr) (vr_up (fun _ => .inr (0, [])) ((List.range N').map rr) (.inl (cI, (K', .inl (fun _ => 0)))))))[i]? = some x := by
      intro i x hx
      rw [List.getElem?_append] at hx ⊢
      split at hx
      · rename_i h9
        rw [if_pos h9]
        exact hx
      · rename_i h9
        rw [if_neg h9]
        rw [List.getElem?_map] at hx
        obtain ⟨i', hi', rfl⟩ := Option.map_eq_some_iff.mp hx
        have h7 := List.getElem?_eq_some_iff.mp hi'
        obtain ⟨h71, h72⟩ := h7
        rw [List.getElem_range] at h72
        rw [List.length_range] at h71
        unfold va_pl
        rw [List.nil_append, List.map_map, List.getElem?_map, List.getElem?_range (by omega)]
        subst h72
        show some _ = some _
        have : vr_up (fun _ => (.inr (0, []) : va_E)) ((List.range N').map rr) (.inl (cI, (K', .inl (fun _ => 0)))) (rr (i - (ws ++ [(q, (.inl (cA, N', .inr (.inr (.inr (.inr (fun i => if i < N' then some (rr i) else none))))) : va_E))]).length)) = .inl (cI, (K', .inl (fun _ => 0))) := vr_up_in (List.mem_map.mpr ⟨_, List.mem_range.mpr (by omega), rfl⟩)
        simp only [Function.comp, this]
    exact kk q rr H1 locs ls (fun i x hx => hP1 i x (hget i x hx)) ⟨fun i j x y hx hy => hD1.1 i j x y (hget i x hx) (hget j y hy), fun i x hx => hD1.2 i x (hget i x hx)⟩ hK hS1 hl
theorem g_callIvz (F : gF p s m args meth c cc own nL Ts A) {y : MethodName} {bytes : ByteArray} {maxL index nA fr lo mc ms : Nat} {wy : List Cond} {b : Nat} {As : List Value} {wc wr : va_W} {tc : List (ClassId × FieldType)} (isC isR isT : List Nat) (hC : isC.map (fun i => ws[i]?) = wc.map some) (hCf : isC.filterMap (fun i => ws[i]?) = wc) (hnC : va_nd isC = true) (hR : isR.map (fun i => ws[i]?) = wr.map some) (hnR : va_nd isR = true) (hdis : ∀ i ∈ isR, i ∉ isC) (hT : isT.filterMap (fun i => tys[i]?) = tc) {S : Type} {post : S → Prop} {w1 : S → va_W} {t1 : S → List (ClassId × FieldType)} {t : Nat} (Z : gz_U t A s s.heap) (hM : ∀ sz : Nat, Kvz l y wy fr lo mc ms D t (.ref b :: As) wc tc sz post w1 t1) (cw : CallB R s args own index y bytes maxL none wy (gR fr mc ms lo) mc ms nA ∧ y.name = "<init>" ∧ (Cond.instanceMethod y).before args s = true) (hn : As.length = nA) (hroom : (st.map fun v => v.category).sum ≤ 8) (hf : k + mc ≤ R.cells ∧ n + ms ≤ R.slots) (hd : decode cc pc = .ok (.invokespecial index, 3)) (kk : ∀ (u : S), post u → gG p l e R s m args below meth c D A nL Q (k + mc) (n + ms) (wr ++ w1 u) tys lv (pc + 3) st) : gG p l e R s m args below meth c D A nL Q k n ws tys lv pc (As.reverse ++ .ref b :: st) := by
  intro H locs ls hP hD hK hS hl
  have hPc := hP.sub isC hCf
  have hDc := hD.sub isC hnC hC
  have hKc := hK.sub isT hT
  have hFc := va_free (wc := wc) hD hS F.2.2.2.2.2.1 isC hC
  refine va_callv (va_runI (As := As) (rest := st) ⟨F.1, F.2.1, F.2.2.1, F.2.2.2.1, F.2.2.2.2.1⟩ (hM H.size) cw ⟨gq_blindz, (fun U hU hW => ⟨rfl, (gq_pre (av := []) hPc hKc hDc U hU hW).2, by rw [hU]; exact Z.to hS hFc hW⟩)⟩ rfl hn hl.1 rfl (lv_room hroom) hd hf) hS (fun q _ h => hFc q h) hFc (fun u t H1 locs1 ht hvm hw hB hz1 hk1 hS1 => ?_)
  obtain ⟨hP1, hK1, hD1⟩ := hB
  rw [ht] at hP1
  obtain ⟨hP2, hD2⟩ := va_join hP hD isC isR hC hR hnR hdis hk1 hFc hP1 hD1
  exact kk u hw H1 locs1 ls hP2 hD2 hK hS1 hl
theorem g_callVvz (F : gF p s m args meth c cc own nL Ts A) {y : MethodName} {bytes : ByteArray} {maxL index nA fr lo mc ms : Nat} {ret : Option FieldType} {wy : List Cond} {b : Nat} {As : List Value} {wc wr : va_W} {tc : List (ClassId × FieldType)} (isC isR isT : List Nat) (hC : isC.map (fun i => ws[i]?) = wc.map some) (hCf : isC.filterMap (fun i => ws[i]?) = wc) (hnC : va_nd isC = true) (hR : isR.map (fun i => ws[i]?) = wr.map some) (hnR : va_nd isR = true) (hdis : ∀ i ∈ isR, i ∉ isC) (hT : isT.filterMap (fun i => tys[i]?) = tc) {S : Type} {post : S → Prop} {w1 : S → va_W} {t1 : S → List (ClassId × FieldType)} {t : Nat} (Z : gz_U t A s s.heap) (hM : ∀ sz : Nat, Kvz l y wy fr lo mc ms D t (.ref b :: As) wc tc sz post w1 t1) {C : String} {ci : Nat} {T : u_T} {N : Nat} {fs : List Value} (cw : CallW R s args own C index y bytes maxL ret wy (gR fr mc ms lo) mc ms nA) (hci : vwCl[ci]? = some (C, T, N)) (q0 : Nat) (hb0 : wc[q0]? = some (b, .inr (ci, fs))) (hn : As.length = nA) (hroom : (st.map fun v => v.category).sum ≤ 8) (hf : k + mc ≤ R.cells ∧ n + ms ≤ R.slots) (hd : decode cc pc = .ok (.invokevirtual index, 3)) (kk : ∀ (u : S), post u → gG p l e R s m args below meth c D A nL Q (k + mc) (n + ms) (wr ++ w1 u) tys lv (pc + 3) st) : gG p l e R s m args below meth c D A nL Q k n ws tys lv pc (As.reverse ++ .ref b :: st) := by
  intro H locs ls hP hD hK hS hl
  have hPc := hP.sub isC hCf
  have hDc := hD.sub isC hnC hC
  have hKc := hK.sub isT hT
  have hFc := va_free (wc := wc) hD hS F.2.2.2.2.2.1 isC hC
  refine va_callv (va_runV (As := As) (rest := st) ⟨F.1, F.2.1, F.2.2.1, F.2.2.2.1, F.2.2.2.2.1⟩ (hM H.size) cw ⟨gq_blindz, va_recv hKc hPc hci hb0, (fun U hU hW => ⟨rfl, (gq_pre (av := []) hPc hKc hDc U hU hW).2, by rw [hU]; exact Z.to hS hFc hW⟩)⟩ rfl hn hl.1 rfl (lv_room hroom) hd hf) hS (fun q _ h => hFc q h) hFc (fun u t H1 locs1 ht hvm hw hB hz1 hk1 hS1 => ?_)
  obtain ⟨hP1, hK1, hD1⟩ := hB
  rw [ht] at hP1
  obtain ⟨hP2, hD2⟩ := va_join hP hD isC isR hC hR hnR hdis hk1 hFc hP1 hD1
  exact kk u hw H1 locs1 ls hP2 hD2 hK hS1 hl
theorem g_callViz (F : gF p s m args meth c cc own nL Ts A) {y : MethodName} {bytes : ByteArray} {maxL index nA fr lo mc ms : Nat} {ret : Option FieldType} {wy : List Cond} {b : Nat} {As : List Value} {wc wr : va_W} {tc : List (ClassId × FieldType)} (isC isR isT : List Nat) (hC : isC.map (fun i => ws[i]?) = wc.map some) (hCf : isC.filterMap (fun i => ws[i]?) = wc) (hnC : va_nd isC = true) (hR : isR.map (fun i => ws[i]?) = wr.map some) (hnR : va_nd isR = true) (hdis : ∀ i ∈ isR, i ∉ isC) (hT : isT.filterMap (fun i => tys[i]?) = tc) {S : Type} {post : Int32 → S → Prop} {w1 : S → va_W} {t1 : S → List (ClassId × FieldType)} {t : Nat} (Z : gz_U t A s s.heap) (hM : ∀ sz : Nat, Kiz l y wy fr lo mc ms D t (.ref b :: As) wc tc sz post w1 t1) {C : String} {ci : Nat} {T : u_T} {N : Nat} {fs : List Value} (cw : CallW R s args own C index y bytes maxL ret wy (gR fr mc ms lo) mc ms nA) (hci : vwCl[ci]? = some (C, T, N)) (q0 : Nat) (hb0 : wc[q0]? = some (b, .inr (ci, fs))) (hn : As.length = nA) (hroom : (st.map fun v => v.category).sum ≤ 8) (hf : k + mc ≤ R.cells ∧ n + ms ≤ R.slots) (hd : decode cc pc = .ok (.invokevirtual index, 3)) (kk : ∀ (r : Int32) (u : S), post r u → gG p l e R s m args below meth c D A nL Q (k + mc) (n + ms) (wr ++ w1 u) tys lv (pc + 3) (.int r :: st)) : gG p l e R s m args below meth c D A nL Q k n ws tys lv pc (As.reverse ++ .ref b :: st) := by
  intro H locs ls hP hD hK hS hl
  have hPc := hP.sub isC hCf
  have hDc := hD.sub isC hnC hC
  have hKc := hK.sub isT hT
  have hFc := va_free (wc := wc) hD hS F.2.2.2.2.2.1 isC hC
  refine va_calli (va_runV (As := As) (rest := st) ⟨F.1, F.2.1, F.2.2.1, F.2.2.2.1, F.2.2.2.2.1⟩ (hM H.size) cw ⟨gq_blindz, va_recv hKc hPc hci hb0, (fun U hU hW => ⟨rfl, (gq_pre (av := []) hPc hKc hDc U hU hW).2, by rw [hU]; exact Z.to hS hFc hW⟩)⟩ rfl hn hl.1 rfl (lv_room hroom) hd hf) hS (fun q _ h => hFc q h) hFc (fun r u t H1 locs1 ht hvm hw hB hz1 hk1 hS1 => ?_)
  obtain ⟨hP1, hK1, hD1⟩ := hB
  rw [ht] at hP1
  obtain ⟨hP2, hD2⟩ := va_join hP hD isC isR hC hR hnR hdis hk1 hFc hP1 hD1
  exact kk r u hw H1 locs1 ls hP2 hD2 hK hS1 hl
theorem g_callIvn (F : gF p s m args meth c cc own nL Ts A) {y : MethodName} {bytes : ByteArray} {maxL index nA fr lo mc ms : Nat} {wy : List Cond} {b : Nat} {As : List Value} {wc wr : va_W} {tc : List (ClassId × FieldType)} (isC isR isT : List Nat) (hC : isC.map (fun i => ws[i]?) = wc.map some) (hCf : isC.filterMap (fun i => ws[i]?) = wc) (hnC : va_nd isC = true) (hR : isR.map (fun i => ws[i]?) = wr.map some) (hnR : va_nd isR = true) (hdis : ∀ i ∈ isR, i ∉ isC) (hT : isT.filterMap (fun i => tys[i]?) = tc) {host : String} {S : Type} {post : S → Prop} {w1 : S → va_W} {t1 : S → List (ClassId × FieldType)} (hM : ∀ sz : Nat, Kv l y wy fr lo mc ms D (.ref b :: As) wc tc sz post w1 t1) (cw : va_CN R s args own index y host bytes maxL none wy (gR fr mc ms lo) mc ms nA ∧ y.name = "<init>" ∧ (Cond.instanceMethod y).before args s = true) (hn : As.length = nA) (hroom : (st.map fun v => v.category).sum ≤ 8) (hf : k + mc ≤ R.cells ∧ n + ms ≤ R.slots) (hd : decode cc pc = .ok (.invokespecial index, 3)) (kk : ∀ (u : S), post u → gG p l e R s m args below meth c D A nL Q (k + mc) (n + ms) (wr ++ w1 u) tys lv (pc + 3) st) : gG p l e R s m args below meth c D A nL Q k n ws tys lv pc (As.reverse ++ .ref b :: st) := by
  intro H locs ls hP hD hK hS hl
  have hPc := hP.sub isC hCf
  have hDc := hD.sub isC hnC hC
  have hKc := hK.sub isT hT
  have hFc := va_free (wc := wc) hD hS F.2.2.2.2.2.1 isC hC
  refine va_callv (va_runIN (As := As) (rest := st) ⟨F.1, F.2.1, F.2.2.1, F.2.2.2.1, F.2.2.2.2.1⟩ (hM H.size) cw ⟨gq_blind, gq_pre hPc hKc hDc⟩ rfl hn hl.1 rfl (lv_room hroom) hd hf) hS (fun q _ h => hFc q h) hFc (fun u t H1 locs1 ht hvm hw hB hz1 hk1 hS1 => ?_)
  obtain ⟨hP1, hK1, hD1⟩ := hB
  rw [ht] at hP1
  obtain ⟨hP2, hD2⟩ := va_join hP hD isC isR hC hR hnR hdis hk1 hFc hP1 hD1
  exact kk u hw H1 locs1 ls hP2 hD2 hK hS1 hl
theorem g_ofWz {y : MethodName} {wy wy' : List Cond} {rm : Room} {av : List Value} {wc : va_W} {tc : List (ClassId × FieldType)} {t sz : Nat} {Qc : Array Value → State → Outcome → State → Prop} {mc ms : Nat} {maxL : Nat} {ret : Option FieldType} (hy : plainName y.cls = true) (hw : wy = Cond.code y cc maxL ret :: wy') (hav : (lg_sl av).length ≤ maxL) (hlv : lv_args 0 av = lv) (body : ∀ (p : Program) (e : Env) (s : State) (m : MethodId) (args : Array Value) (below : List Frame) (meth : Method) (c : Code) (A : Nat → Prop) (Q : State → Prop), A = va_A wc sz → Q = MQ below Qc args s mc ms (va_A wc sz) → gz_U t A s s.heap → gF p s m args meth c cc y.cls maxL wy A → meth.sig.returnType = ret → meth.name = y.name → gG p l e rm s m args below meth c D A maxL Q 0 0 wc tc lv 0 []) : Met l y wy rm (va_Pc av (gq_Uz D wc tc t sz)) Qc mc ms (va_A wc sz) := by
  refine Met.ofW (cc := cc) (maxL := maxL) (ret := ret) hy hw ?_
  intro p e s m args below meth c s₁ B hml hv
  obtain ⟨rfl, ⟨hsz, hP, hK, hD0⟩, hZ⟩ := hv
  have hl := lv_entry av (n := maxL) hav
  rw [lg_entry_eq]
  generalize (lg_sl av ++ List.replicate (maxL - (lg_sl av).length) Slot.unset).toArray = ls at hl ⊢
  rw [hlv] at hl
  exact body p e s m _ below meth c _ _ rfl rfl hZ ⟨B.exec, B.bytes, hml, findClass_of_methodNamed B.named, atoms_spec (ws := wy) B.pre, fun q h => Or.inr (hsz ▸ h), B.notSynchronized⟩ B.returns (name_of_methodNamed B.named B.method).1 s.heap [] ls hP (hD0.self (sz := sz)) hK va_S.rf hl
end GZ
