section GW
variable {p : Program} {l : Launch} {e : Env} {R : Room} {s : State} {m : MethodId} {args : Array Value} {below : List Frame} {meth : Method} {c : Code} {cc : ByteArray} {own : String} {nL : Nat} {Ts : List Cond} {D : va_G} {A : Nat → Prop} {Q : State → Prop} {k n : Nat} {ws ws' : va_W} {tys : List (ClassId × FieldType)} {lv lv' : List (Nat × Value)} {pc : Nat} {st : List Value}
abbrev gS : Type := Nat → Nat → Int32
/-- a number of a cell is written; a row is written anew -/
def gu_up (G : gS) (j k : Nat) (v : Int32) : gS := fun q => if q = j then upd (G j) k v else G q
def gu_st (G : gS) (j : Nat) (f : Nat → Int32) : gS := fun q => if q = j then f else G q
theorem gu_up_st (G : gS) (j k : Nat) (v : Int32) : gu_up G j k v = gu_st G j (upd (G j) k v) := rfl
theorem gu_st_same {G : gS} {j : Nat} {f : Nat → Int32} : gu_st G j f j = f := if_pos rfl
theorem gu_st_ne {G : gS} {j q : Nat} {f : Nat → Int32} (h : q ≠ j) : gu_st G j f q = G q := if_neg h
/-- all numbers lie between bounds -/
def gu_I (lo hi : Nat → Nat → Int) (G : gS) : Prop := ∀ j k, lo j k ≤ (G j k).toInt ∧ (G j k).toInt ≤ hi j k
theorem gu_I.sw {lo hi : Nat → Nat → Int} {G : gS} (h : gu_I lo hi G) {j : Nat} {f : Nat → Int32} (hf : ∀ k, lo j k ≤ (f k).toInt ∧ (f k).toInt ≤ hi j k) : gu_I lo hi (gu_st G j f) := fun q k => by
  by_cases e : q = j
  · subst e; rw [gu_st_same]; exact hf k
  · rw [gu_st_ne e]; exact h q k
theorem gu_I.up {lo hi : Nat → Nat → Int} {G : gS} (h : gu_I lo hi G) {j k : Nat} {v : Int32} (h1 : lo j k ≤ v.toInt) (h2 : v.toInt ≤ hi j k) : gu_I lo hi (gu_up G j k v) := h.sw (fun q => by
  by_cases e : q = k
  · subst e; simp only [upd, if_true]; exact ⟨h1, h2⟩
  · simp only [upd, if_neg e]; exact h j q)
theorem gu_I.cpy {lo hi : Nat → Nat → Int} {G : gS} (h : gu_I lo hi G) {j : Nat} {f : Nat → Int32} {sp dp z : Nat} (hf : ∀ k, lo j (dp + k) ≤ (f (sp + k)).toInt ∧ (f (sp + k)).toInt ≤ hi j (dp + k)) : gu_I lo hi (gu_st G j (va_cpy f (G j) sp dp z)) := h.sw (fun q => by
  unfold va_cpy
  split
  · rename_i e
    have h9 := hf (q - dp)
    rw [show dp + (q - dp) = q by omega] at h9
    exact h9
  · exact h j q)
/-- but for the numbers of a list nothing has changed -/
def gu_un (cd : Nat → Nat → Nat) (L : List Nat) (G G' : gS) : Prop := ∀ j k, cd j k ∉ L → G' j k = G j k
theorem gu_un.rf {cd : Nat → Nat → Nat} {L : List Nat} {G : gS} : gu_un cd L G G := fun _ _ _ => rfl
theorem gu_un.tr {cd : Nat → Nat → Nat} {L : List Nat} {G G1 G2 : gS} (h1 : gu_un cd L G G1) (h2 : gu_un cd L G1 G2) : gu_un cd L G G2 := fun j k h => (h2 j k h).trans (h1 j k h)
theorem gu_un.su {cd : Nat → Nat → Nat} {L L2 : List Nat} {G G1 : gS} (h1 : gu_un cd L G G1) (h : L.all (fun x => L2.contains x) = true) : gu_un cd L2 G G1 := fun j k h9 => h1 j k (fun q => h9 (by
  have := List.all_eq_true.mp h _ q
  simpa using this))
theorem gu_un.sw {cd : Nat → Nat → Nat} {L : List Nat} {G G1 : gS} (h : gu_un cd L G G1) {j : Nat} {f : Nat → Int32} (hj : ∀ k, cd j k ∈ L) : gu_un cd L G (gu_st G1 j f) := fun q k h9 => by
  by_cases e : q = j
  · subst e; exact absurd (hj k) h9
  · rw [gu_st_ne e]; exact h q k h9
theorem gu_un.up {cd : Nat → Nat → Nat} {L : List Nat} {G G1 : gS} (h : gu_un cd L G G1) {j k : Nat} {v : Int32} (hj : cd j k ∈ L) : gu_un cd L G (gu_up G1 j k v) := fun q r h9 => by
  by_cases e : q = j
  · subst e
    by_cases e2 : r = k
    · subst e2; exact absurd hj h9
    · show (gu_up G1 q k v) q r = _
      unfold gu_up
      rw [if_pos rfl]
      simp only [upd, if_neg e2]
      exact h q r h9
  · show (gu_st G1 j _) q r = _
    rw [gu_st_ne e]; exact h q r h9
/-- a world out of a table of cells -/
def gu_W (N : Nat) (C : Nat → (Nat → Int32) → va_E) (a : Nat → Nat) (G : gS) : va_W := (List.range N).map (fun j => (a j, C j (G j)))
theorem gu_W.at {N : Nat} {C : Nat → (Nat → Int32) → va_E} {a : Nat → Nat} {G : gS} (j : Nat) (h : j < N) {x : va_E} (hx : C j (G j) = x) : (gu_W N C a G)[j]? = some (a j, x) := by
  unfold gu_W
  rw [List.getElem?_map, List.getElem?_range h, ← hx]
  rfl
theorem gu_W.set {N : Nat} {C : Nat → (Nat → Int32) → va_E} {a : Nat → Nat} {G : gS} (j : Nat) (f : Nat → Int32) {x : va_E} (hx : C j f = x) : (gu_W N C a G).set j (a j, x) = gu_W N C a (gu_st G j f) := by
  subst hx
  apply List.ext_getElem?
  intro i
  unfold gu_W
  rw [List.getElem?_set, List.getElem?_map, List.getElem?_map, List.length_map, List.length_range]
  by_cases e : j = i
  · subst e
    rw [if_pos rfl]
    split
    · rename_i h
      rw [List.getElem?_range h]
      show _ = some (a j, C j (gu_st G j f j))
      rw [gu_st_same]
    · rename_i h
      rw [List.getElem?_eq_none (by rw [List.length_range]; omega)]
      rfl
  · rw [if_neg e]
    by_cases h : i < N
    · rw [List.getElem?_range h]
      show some (a i, C i (G i)) = some (a i, C i (gu_st G j f i))
      rw [gu_st_ne (fun q => e q.symm)]
    · rw [List.getElem?_eq_none (by rw [List.length_range]; omega)]
      rfl
theorem gu_rg (n : Nat) : va_nd (List.range n) = true := by
  have : ∀ (l : List Nat), l.Nodup → va_nd l = true := by
    intro l h
    induction l with
    | nil => rfl
    | cons x l ih =>
      rw [List.nodup_cons] at h
      simp only [va_nd, Bool.and_eq_true, decide_eq_true_eq]
      exact ⟨h.1, ih h.2⟩
  exact this _ List.nodup_range
theorem gu_rm {α : Type} (ws : List α) : (List.range ws.length).map (fun i => ws[i]?) = ws.map some := by
  apply List.ext_getElem?
  intro i
  rw [List.getElem?_map, List.getElem?_map]
  by_cases h : i < ws.length
  · rw [List.getElem?_range h, List.getElem?_eq_getElem h]
    simp [List.getElem?_eq_getElem h]
  · rw [List.getElem?_eq_none (by rw [List.length_range]; omega), List.getElem?_eq_none (by omega)]
    rfl
theorem gu_fm {α : Type} (ws : List α) : (List.range ws.length).filterMap (fun i => ws[i]?) = ws := by
  have h1 : (List.range ws.length).filterMap (fun i => ws[i]?) = ((List.range ws.length).map (fun i => ws[i]?)).filterMap id := by rw [List.filterMap_map]; rfl
  rw [h1, gu_rm, List.filterMap_map]
  simp
theorem u_iadd (F : gF p s m args meth c cc own nL Ts A) {x y : Int32} (hd : decode cc pc = .ok (.iadd, 1)) (a b : Int) (hx : x.toInt = a) (hy : y.toInt = b) (h1 : -2147483648 ≤ a + b) (h2 : a + b ≤ 2147483647) (kk : ∀ z : Int32, z.toInt = a + b → gG p l e R s m args below meth c D A nL Q k n ws tys lv (pc + 1) (.int z :: st)) : gG p l e R s m args below meth c D A nL Q k n ws tys lv pc (.int y :: .int x :: st) := g_iadd F hd (kk _ (ti_add hx hy h1 h2))
theorem u_isub (F : gF p s m args meth c cc own nL Ts A) {x y : Int32} (hd : decode cc pc = .ok (.isub, 1)) (a b : Int) (hx : x.toInt = a) (hy : y.toInt = b) (h1 : -2147483648 ≤ a - b) (h2 : a - b ≤ 2147483647) (kk : ∀ z : Int32, z.toInt = a - b → gG p l e R s m args below meth c D A nL Q k n ws tys lv (pc + 1) (.int z :: st)) : gG p l e R s m args below meth c D A nL Q k n ws tys lv pc (.int y :: .int x :: st) := g_isub F hd (kk _ (ti_sub hx hy h1 h2))
theorem u_imul (F : gF p s m args meth c cc own nL Ts A) {x y : Int32} (hd : decode cc pc = .ok (.imul, 1)) (a b : Int) (hx : x.toInt = a) (hy : y.toInt = b) (h1 : -2147483648 ≤ a * b) (h2 : a * b ≤ 2147483647) (kk : ∀ z : Int32, z.toInt = a * b → gG p l e R s m args below meth c D A nL Q k n ws tys lv (pc + 1) (.int z :: st)) : gG p l e R s m args below meth c D A nL Q k n ws tys lv pc (.int y :: .int x :: st) := g_imul F hd (kk _ (ti_mul hx hy h1 h2))
theorem u_idiv (F : gF p s m args meth c cc own nL Ts A) {x y : Int32} (hd : decode cc pc = .ok (.idiv, 1)) (hne : ¬ y = 0) (a b : Int) (hx : x.toInt = a) (hy : y.toInt = b) (h1 : 0 ≤ a) (h2 : 0 < b) (kk : ∀ z : Int32, z.toInt = a / b → gG p l e R s m args below meth c D A nL Q k n ws tys lv (pc + 1) (.int z :: st)) : gG p l e R s m args below meth c D A nL Q k n ws tys lv pc (.int y :: .int x :: st) := g_idiv F hd hne (kk _ (ti_div hx hy h1 h2))
theorem u_irem (F : gF p s m args meth c cc own nL Ts A) {x y : Int32} (hd : decode cc pc = .ok (.irem, 1)) (hne : ¬ y = 0) (a b : Int) (hx : x.toInt = a) (hy : y.toInt = b) (h1 : 0 ≤ a) (h2 : 0 < b) (kk : ∀ z : Int32, 0 ≤ z.toInt ∧ z.toInt < b ∧ z.toInt ≤ a ∧ z.toInt = a % b → gG p l e R s m args below meth c D A nL Q k n ws tys lv (pc + 1) (.int z :: st)) : gG p l e R s m args below meth c D A nL Q k n ws tys lv pc (.int y :: .int x :: st) := g_irem F hd hne (kk _ (by have h9 := ti_remb hx hy h1 h2; have h8 := ti_rem hx hy h1 h2; exact ⟨h9.1, h9.2.1, h9.2.2, h8⟩))
theorem u_iand (F : gF p s m args meth c cc own nL Ts A) {x y : Int32} (hd : decode cc pc = .ok (.iand, 1)) (a b : Int) (hx : x.toInt = a) (hy : y.toInt = b) (h1 : 0 ≤ b) (kk : ∀ z : Int32, 0 ≤ z.toInt ∧ z.toInt ≤ b → gG p l e R s m args below meth c D A nL Q k n ws tys lv (pc + 1) (.int z :: st)) : gG p l e R s m args below meth c D A nL Q k n ws tys lv pc (.int y :: .int x :: st) := g_iand F hd (kk _ (ti_andm hy h1))
theorem u0_iadd (F : gF p s m args meth c cc own nL Ts A) {x y : Int32} (hd : decode cc pc = .ok (.iadd, 1)) (kk : ∀ z : Int32, gG p l e R s m args below meth c D A nL Q k n ws tys lv (pc + 1) (.int z :: st)) : gG p l e R s m args below meth c D A nL Q k n ws tys lv pc (.int y :: .int x :: st) := g_iadd F hd (kk _)
theorem u0_isub (F : gF p s m args meth c cc own nL Ts A) {x y : Int32} (hd : decode cc pc = .ok (.isub, 1)) (kk : ∀ z : Int32, gG p l e R s m args below meth c D A nL Q k n ws tys lv (pc + 1) (.int z :: st)) : gG p l e R s m args below meth c D A nL Q k n ws tys lv pc (.int y :: .int x :: st) := g_isub F hd (kk _)
theorem u0_imul (F : gF p s m args meth c cc own nL Ts A) {x y : Int32} (hd : decode cc pc = .ok (.imul, 1)) (kk : ∀ z : Int32, gG p l e R s m args below meth c D A nL Q k n ws tys lv (pc + 1) (.int z :: st)) : gG p l e R s m args below meth c D A nL Q k n ws tys lv pc (.int y :: .int x :: st) := g_imul F hd (kk _)
theorem u0_iand (F : gF p s m args meth c cc own nL Ts A) {x y : Int32} (hd : decode cc pc = .ok (.iand, 1)) (kk : ∀ z : Int32, gG p l e R s m args below meth c D A nL Q k n ws tys lv (pc + 1) (.int z :: st)) : gG p l e R s m args below meth c D A nL Q k n ws tys lv pc (.int y :: .int x :: st) := g_iand F hd (kk _)
theorem u0_ior (F : gF p s m args meth c cc own nL Ts A) {x y : Int32} (hd : decode cc pc = .ok (.ior, 1)) (kk : ∀ z : Int32, gG p l e R s m args below meth c D A nL Q k n ws tys lv (pc + 1) (.int z :: st)) : gG p l e R s m args below meth c D A nL Q k n ws tys lv pc (.int y :: .int x :: st) := g_ior F hd (kk _)
theorem u0_ixor (F : gF p s m args meth c cc own nL Ts A) {x y : Int32} (hd : decode cc pc = .ok (.ixor, 1)) (kk : ∀ z : Int32, gG p l e R s m args below meth c D A nL Q k n ws tys lv (pc + 1) (.int z :: st)) : gG p l e R s m args below meth c D A nL Q k n ws tys lv pc (.int y :: .int x :: st) := g_ixor F hd (kk _)
theorem u0_ishl (F : gF p s m args meth c cc own nL Ts A) {x y : Int32} (hd : decode cc pc = .ok (.ishl, 1)) (kk : ∀ z : Int32, gG p l e R s m args below meth c D A nL Q k n ws tys lv (pc + 1) (.int z :: st)) : gG p l e R s m args below meth c D A nL Q k n ws tys lv pc (.int y :: .int x :: st) := g_ishl F hd (kk _)
theorem u0_ishr (F : gF p s m args meth c cc own nL Ts A) {x y : Int32} (hd : decode cc pc = .ok (.ishr, 1)) (kk : ∀ z : Int32, gG p l e R s m args below meth c D A nL Q k n ws tys lv (pc + 1) (.int z :: st)) : gG p l e R s m args below meth c D A nL Q k n ws tys lv pc (.int y :: .int x :: st) := g_ishr F hd (kk _)
theorem u0_idiv (F : gF p s m args meth c cc own nL Ts A) {x y : Int32} (hd : decode cc pc = .ok (.idiv, 1)) (hne : ¬ y = 0) (kk : ∀ z : Int32, gG p l e R s m args below meth c D A nL Q k n ws tys lv (pc + 1) (.int z :: st)) : gG p l e R s m args below meth c D A nL Q k n ws tys lv pc (.int y :: .int x :: st) := g_idiv F hd hne (kk _)
theorem u0_irem (F : gF p s m args meth c cc own nL Ts A) {x y : Int32} (hd : decode cc pc = .ok (.irem, 1)) (hne : ¬ y = 0) (kk : ∀ z : Int32, gG p l e R s m args below meth c D A nL Q k n ws tys lv (pc + 1) (.int z :: st)) : gG p l e R s m args below meth c D A nL Q k n ws tys lv pc (.int y :: .int x :: st) := g_irem F hd hne (kk _)
theorem u0_iushr (F : gF p s m args meth c cc own nL Ts A) {x y : Int32} (hd : decode cc pc = .ok (.iushr, 1)) (kk : ∀ z : Int32, gG p l e R s m args below meth c D A nL Q k n ws tys lv (pc + 1) (.int z :: st)) : gG p l e R s m args below meth c D A nL Q k n ws tys lv pc (.int y :: .int x :: st) := g_iushr F hd (kk _)
theorem u_ineg (F : gF p s m args meth c cc own nL Ts A) {x : Int32} (hd : decode cc pc = .ok (.ineg, 1)) (a : Int) (hx : x.toInt = a) (h1 : -2147483648 < a) (kk : ∀ z : Int32, z.toInt = -a → gG p l e R s m args below meth c D A nL Q k n ws tys lv (pc + 1) (.int z :: st)) : gG p l e R s m args below meth c D A nL Q k n ws tys lv pc (.int x :: st) := g_ineg F hd (kk _ (ti_neg hx h1))
theorem u0_ineg (F : gF p s m args meth c cc own nL Ts A) {x : Int32} (hd : decode cc pc = .ok (.ineg, 1)) (kk : ∀ z : Int32, gG p l e R s m args below meth c D A nL Q k n ws tys lv (pc + 1) (.int z :: st)) : gG p l e R s m args below meth c D A nL Q k n ws tys lv pc (.int x :: st) := g_ineg F hd (kk _)
theorem u0_i2b (F : gF p s m args meth c cc own nL Ts A) {x : Int32} (hd : decode cc pc = .ok (.i2b, 1)) (kk : ∀ z : Int32, gG p l e R s m args below meth c D A nL Q k n ws tys lv (pc + 1) (.int z :: st)) : gG p l e R s m args below meth c D A nL Q k n ws tys lv pc (.int x :: st) := g_i2b F hd (kk _)
theorem u0_i2c (F : gF p s m args meth c cc own nL Ts A) {x : Int32} (hd : decode cc pc = .ok (.i2c, 1)) (kk : ∀ z : Int32, gG p l e R s m args below meth c D A nL Q k n ws tys lv (pc + 1) (.int z :: st)) : gG p l e R s m args below meth c D A nL Q k n ws tys lv pc (.int x :: st) := g_i2c F hd (kk _)
theorem u_iinc (F : gF p s m args meth c cc own nL Ts A) {i j : Nat} {z : Int} {x : Int32} (lv2 : Int32 → List (Nat × Value)) (hd : decode cc pc = .ok (.iinc i z, 3)) (hj : lv[j]? = some (i, .int x)) (a b : Int) (hx : x.toInt = a) (hz : (Int32.ofInt z).toInt = b) (h1 : -2147483648 ≤ a + b) (h2 : a + b ≤ 2147483647) (hn : i < nL) (h : ∀ v : Int32, (i, Value.int v) :: lv.filter (fun q => !(q.1 == i) && !(q.1 + 1 == i && q.2.category == 2)) = lv2 v) (kk : ∀ v : Int32, v.toInt = a + b → gG p l e R s m args below meth c D A nL Q k n ws tys (lv2 v) (pc + 3) st) : gG p l e R s m args below meth c D A nL Q k n ws tys lv pc st := g_iinc F (j := j) (x + Int32.ofInt z) _ hd hj rfl hn (h _) (kk _ (ti_add hx hz h1 h2))
theorem u0_iinc (F : gF p s m args meth c cc own nL Ts A) {i j : Nat} {z : Int} {x : Int32} (lv2 : Int32 → List (Nat × Value)) (hd : decode cc pc = .ok (.iinc i z, 3)) (hj : lv[j]? = some (i, .int x)) (hn : i < nL) (h : ∀ v : Int32, (i, Value.int v) :: lv.filter (fun q => !(q.1 == i) && !(q.1 + 1 == i && q.2.category == 2)) = lv2 v) (kk : ∀ v : Int32, gG p l e R s m args below meth c D A nL Q k n ws tys (lv2 v) (pc + 3) st) : gG p l e R s m args below meth c D A nL Q k n ws tys lv pc st := g_iinc F (j := j) (x + Int32.ofInt z) _ hd hj rfl hn (h _) (kk _)
theorem u_iald (F : gF p s m args meth c cc own nL Ts A) (q0 t0 : Nat) {a : Nat} {cA : ClassId} {z : Nat} {f : Nat → Int32} (ha : ws[q0]? = some (a, .inl (cA, z, .inl f))) (ht : tys[t0]? = some (cA, .int)) {i : Int32} (b : Int) (hi : i.toInt = b) (h0 : 0 ≤ b) (h1 : b < z) (hd : decode cc pc = .ok (.iaload, 1)) (P : Int32 → Prop) (hP : ∀ k, P (f k)) (kk : ∀ y : Int32, P y → gG p l e R s m args below meth c D A nL Q k n ws tys lv (pc + 1) (.int y :: st)) : gG p l e R s m args below meth c D A nL Q k n ws tys lv pc (.int i :: .ref a :: st) := g_iald F q0 t0 ha ht (ti_in hi h0 h1) hd (kk _ (hP _))
theorem u2_iald (F : gF p s m args meth c cc own nL Ts A) (q0 t0 : Nat) {a : Nat} {cA : ClassId} {z : Nat} {f : Nat → Int32} (ha : ws[q0]? = some (a, .inl (cA, z, .inl f))) (ht : tys[t0]? = some (cA, .int)) {i : Int32} (b : Int) (hi : i.toInt = b) (h0 : 0 ≤ b) (h1 : b < z) (hd : decode cc pc = .ok (.iaload, 1)) (P : Int32 → Prop) (hP : P (f b.toNat)) (kk : ∀ y : Int32, P y → gG p l e R s m args below meth c D A nL Q k n ws tys lv (pc + 1) (.int y :: st)) : gG p l e R s m args below meth c D A nL Q k n ws tys lv pc (.int i :: .ref a :: st) := g_iald F q0 t0 ha ht (ti_in hi h0 h1) hd (by rw [show i.toNatClampNeg = b.toNat by rw [← hi]; rfl]; exact kk _ hP)
theorem u1_iald (F : gF p s m args meth c cc own nL Ts A) (q0 t0 : Nat) {a : Nat} {cA : ClassId} {z : Nat} {f : Nat → Int32} (ha : ws[q0]? = some (a, .inl (cA, z, .inl f))) (ht : tys[t0]? = some (cA, .int)) {i : Int32} (b : Int) (hi : i.toInt = b) (h0 : 0 ≤ b) (h1 : b < z) (hd : decode cc pc = .ok (.iaload, 1)) (v : Int32) (hv : f b.toNat = v) (kk : gG p l e R s m args below meth c D A nL Q k n ws tys lv (pc + 1) (.int v :: st)) : gG p l e R s m args below meth c D A nL Q k n ws tys lv pc (.int i :: .ref a :: st) := g_iald F q0 t0 ha ht (ti_in hi h0 h1) hd (by rw [show i.toNatClampNeg = b.toNat by rw [← hi]; rfl, hv]; exact kk)
theorem u_bald (F : gF p s m args meth c cc own nL Ts A) (q0 t0 : Nat) {a : Nat} {cA : ClassId} {z : Nat} {f : Nat → Int32} (ha : ws[q0]? = some (a, .inl (cA, z, .inl f))) (ht : tys[t0]? = some (cA, .byte)) {i : Int32} (b : Int) (hi : i.toInt = b) (h0 : 0 ≤ b) (h1 : b < z) (hd : decode cc pc = .ok (.baload, 1)) (P : Int32 → Prop) (hP : ∀ k, P (f k)) (kk : ∀ y : Int32, P y → gG p l e R s m args below meth c D A nL Q k n ws tys lv (pc + 1) (.int y :: st)) : gG p l e R s m args below meth c D A nL Q k n ws tys lv pc (.int i :: .ref a :: st) := g_bald F q0 t0 ha ht (ti_in hi h0 h1) hd (kk _ (hP _))
theorem u2_bald (F : gF p s m args meth c cc own nL Ts A) (q0 t0 : Nat) {a : Nat} {cA : ClassId} {z : Nat} {f : Nat → Int32} (ha : ws[q0]? = some (a, .inl (cA, z, .inl f))) (ht : tys[t0]? = some (cA, .byte)) {i : Int32} (b : Int) (hi : i.toInt = b) (h0 : 0 ≤ b) (h1 : b < z) (hd : decode cc pc = .ok (.baload, 1)) (P : Int32 → Prop) (hP : P (f b.toNat)) (kk : ∀ y : Int32, P y → gG p l e R s m args below meth c D A nL Q k n ws tys lv (pc + 1) (.int y :: st)) : gG p l e R s m args below meth c D A nL Q k n ws tys lv pc (.int i :: .ref a :: st) := g_bald F q0 t0 ha ht (ti_in hi h0 h1) hd (by rw [show i.toNatClampNeg = b.toNat by rw [← hi]; rfl]; exact kk _ hP)
theorem u1_bald (F : gF p s m args meth c cc own nL Ts A) (q0 t0 : Nat) {a : Nat} {cA : ClassId} {z : Nat} {f : Nat → Int32} (ha : ws[q0]? = some (a, .inl (cA, z, .inl f))) (ht : tys[t0]? = some (cA, .byte)) {i : Int32} (b : Int) (hi : i.toInt = b) (h0 : 0 ≤ b) (h1 : b < z) (hd : decode cc pc = .ok (.baload, 1)) (v : Int32) (hv : f b.toNat = v) (kk : gG p l e R s m args below meth c D A nL Q k n ws tys lv (pc + 1) (.int v :: st)) : gG p l e R s m args below meth c D A nL Q k n ws tys lv pc (.int i :: .ref a :: st) := g_bald F q0 t0 ha ht (ti_in hi h0 h1) hd (by rw [show i.toNatClampNeg = b.toNat by rw [← hi]; rfl, hv]; exact kk)
theorem u_zald (F : gF p s m args meth c cc own nL Ts A) (q0 t0 : Nat) {a : Nat} {cA : ClassId} {z : Nat} {f : Nat → Int32} (ha : ws[q0]? = some (a, .inl (cA, z, .inl f))) (ht : tys[t0]? = some (cA, .boolean)) {i : Int32} (b : Int) (hi : i.toInt = b) (h0 : 0 ≤ b) (h1 : b < z) (hd : decode cc pc = .ok (.baload, 1)) (P : Int32 → Prop) (hP : ∀ k, P (f k)) (kk : ∀ y : Int32, P y → gG p l e R s m args below meth c D A nL Q k n ws tys lv (pc + 1) (.int y :: st)) : gG p l e R s m args below meth c D A nL Q k n ws tys lv pc (.int i :: .ref a :: st) := g_zald F q0 t0 ha ht (ti_in hi h0 h1) hd (kk _ (hP _))
theorem u2_zald (F : gF p s m args meth c cc own nL Ts A) (q0 t0 : Nat) {a : Nat} {cA : ClassId} {z : Nat} {f : Nat → Int32} (ha : ws[q0]? = some (a, .inl (cA, z, .inl f))) (ht : tys[t0]? = some (cA, .boolean)) {i : Int32} (b : Int) (hi : i.toInt = b) (h0 : 0 ≤ b) (h1 : b < z) (hd : decode cc pc = .ok (.baload, 1)) (P : Int32 → Prop) (hP : P (f b.toNat)) (kk : ∀ y : Int32, P y → gG p l e R s m args below meth c D A nL Q k n ws tys lv (pc + 1) (.int y :: st)) : gG p l e R s m args below meth c D A nL Q k n ws tys lv pc (.int i :: .ref a :: st) := g_zald F q0 t0 ha ht (ti_in hi h0 h1) hd (by rw [show i.toNatClampNeg = b.toNat by rw [← hi]; rfl]; exact kk _ hP)
theorem u1_zald (F : gF p s m args meth c cc own nL Ts A) (q0 t0 : Nat) {a : Nat} {cA : ClassId} {z : Nat} {f : Nat → Int32} (ha : ws[q0]? = some (a, .inl (cA, z, .inl f))) (ht : tys[t0]? = some (cA, .boolean)) {i : Int32} (b : Int) (hi : i.toInt = b) (h0 : 0 ≤ b) (h1 : b < z) (hd : decode cc pc = .ok (.baload, 1)) (v : Int32) (hv : f b.toNat = v) (kk : gG p l e R s m args below meth c D A nL Q k n ws tys lv (pc + 1) (.int v :: st)) : gG p l e R s m args below meth c D A nL Q k n ws tys lv pc (.int i :: .ref a :: st) := g_zald F q0 t0 ha ht (ti_in hi h0 h1) hd (by rw [show i.toNatClampNeg = b.toNat by rw [← hi]; rfl, hv]; exact kk)
theorem u_iast (F : gF p s m args meth c cc own nL Ts A) (q0 t0 : Nat) {a : Nat} {cA : ClassId} {z : Nat} {f : Nat → Int32} (ha : ws[q0]? = some (a, .inl (cA, z, .inl f))) (ht : tys[t0]? = some (cA, .int)) {i x : Int32} (b : Int) (hi : i.toInt = b) (h0 : 0 ≤ b) (h1 : b < z) (w2 : va_W) (hw : ws.set q0 (a, .inl (cA, z, .inl (upd f b.toNat x))) = w2) (hd : decode cc pc = .ok (.iastore, 1)) (kk : gG p l e R s m args below meth c D A nL Q k n w2 tys lv (pc + 1) st) : gG p l e R s m args below meth c D A nL Q k n ws tys lv pc (.int x :: .int i :: .ref a :: st) := g_iast F q0 t0 ha ht (ti_in hi h0 h1) _ (by rw [show i.toNatClampNeg = b.toNat by rw [← hi]; rfl]; exact hw) hd kk
theorem u_bast (F : gF p s m args meth c cc own nL Ts A) (q0 t0 : Nat) {a : Nat} {cA : ClassId} {z : Nat} {f : Nat → Int32} (ha : ws[q0]? = some (a, .inl (cA, z, .inl f))) (ht : tys[t0]? = some (cA, .byte)) {i x : Int32} (b : Int) (hi : i.toInt = b) (h0 : 0 ≤ b) (h1 : b < z) (w2 : va_W) (hw : ws.set q0 (a, .inl (cA, z, .inl (upd f b.toNat (vp_nar .byte x)))) = w2) (hd : decode cc pc = .ok (.bastore, 1)) (kk : gG p l e R s m args below meth c D A nL Q k n w2 tys lv (pc + 1) st) : gG p l e R s m args below meth c D A nL Q k n ws tys lv pc (.int x :: .int i :: .ref a :: st) := g_bast F q0 t0 ha ht (ti_in hi h0 h1) _ (by rw [show i.toNatClampNeg = b.toNat by rw [← hi]; rfl]; exact hw) hd kk
theorem u_zast (F : gF p s m args meth c cc own nL Ts A) (q0 t0 : Nat) {a : Nat} {cA : ClassId} {z : Nat} {f : Nat → Int32} (ha : ws[q0]? = some (a, .inl (cA, z, .inl f))) (ht : tys[t0]? = some (cA, .boolean)) {i x : Int32} (b : Int) (hi : i.toInt = b) (h0 : 0 ≤ b) (h1 : b < z) (w2 : va_W) (hw : ws.set q0 (a, .inl (cA, z, .inl (upd f b.toNat (vp_nar .boolean x)))) = w2) (hd : decode cc pc = .ok (.bastore, 1)) (kk : gG p l e R s m args below meth c D A nL Q k n w2 tys lv (pc + 1) st) : gG p l e R s m args below meth c D A nL Q k n ws tys lv pc (.int x :: .int i :: .ref a :: st) := g_zast F q0 t0 ha ht (ti_in hi h0 h1) _ (by rw [show i.toNatClampNeg = b.toNat by rw [← hi]; rfl]; exact hw) hd kk
theorem u_iret (F : gF p s m args meth c cc own nL Ts A) {wc : va_W} {sz : Nat} {S : Type} {post : Int32 → S → Prop} {w1 : S → va_W} {t1 : S → List (ClassId × FieldType)} (hA : A = va_A wc sz) (hQ : Q = MQ below (va_Qi post (gq_B D (va_A wc sz) w1 t1) (va_A wc sz)) args s k n (va_A wc sz)) (hr : meth.sig.returnType = some .int) {v : Int32} (u : S) (hp : post v u) (hw : w1 u = ws) (ht : t1 u = tys) (hd : decode cc pc = .ok (.ireturn, 1)) : gG p l e R s m args below meth c D A nL Q k n ws tys lv pc [.int v] := by
  subst hA
  subst hQ
  subst hw
  subst ht
  exact fun H locs ls hP hD hK hS hl => W.iret F.1 F.2.1 hr (fun t hh hW => ⟨⟨v, u, rfl, hp, by rw [hh]; exact hP, va_K.moved hW.alike hK, hD⟩, hS.F hh⟩) hS.2.2 hd F.2.2.2.2.2.2
theorem u_zret (F : gF p s m args meth c cc own nL Ts A) {wc : va_W} {sz : Nat} {S : Type} {ty : FieldType} {post : Int32 → S → Prop} {w1 : S → va_W} {t1 : S → List (ClassId × FieldType)} (hA : A = va_A wc sz) (hQ : Q = MQ below (va_Qi post (gq_B D (va_A wc sz) w1 t1) (va_A wc sz)) args s k n (va_A wc sz)) (hr : meth.sig.returnType = some ty) {v : Int32} (hnw : narrow ty (.int v) = .int v) (u : S) (hp : post v u) (hw : w1 u = ws) (ht : t1 u = tys) (hd : decode cc pc = .ok (.ireturn, 1)) : gG p l e R s m args below meth c D A nL Q k n ws tys lv pc [.int v] := by
  subst hA
  subst hQ
  subst hw
  subst ht
  exact fun H locs ls hP hD hK hS hl => W.zret F.1 F.2.1 hr hnw (fun t hh hW => ⟨⟨v, u, rfl, hp, by rw [hh]; exact hP, va_K.moved hW.alike hK, hD⟩, hS.F hh⟩) hS.2.2 hd F.2.2.2.2.2.2
theorem u_vret (F : gF p s m args meth c cc own nL Ts A) {wc : va_W} {sz : Nat} {S : Type} {post : S → Prop} {w1 : S → va_W} {t1 : S → List (ClassId × FieldType)} (hA : A = va_A wc sz) (hQ : Q = MQ below (va_Qv post (gq_B D (va_A wc sz) w1 t1) (va_A wc sz)) args s k n (va_A wc sz)) (hr : meth.sig.returnType = none)  (u : S) (hp : post u) (hw : w1 u = ws) (ht : t1 u = tys) (hd : decode cc pc = .ok (.return_, 1)) : gG p l e R s m args below meth c D A nL Q k n ws tys lv pc [] := by
  subst hA
  subst hQ
  subst hw
  subst ht
  exact fun H locs ls hP hD hK hS hl => W.vret F.1 F.2.1 hr (fun t hh hW => ⟨⟨u, rfl, hp, by rw [hh]; exact hP, va_K.moved hW.alike hK, hD⟩, hS.F hh⟩) hS.2.2 hd F.2.2.2.2.2.2
theorem u_aret (F : gF p s m args meth c cc own nL Ts A) {wc : va_W} {sz : Nat} {S : Type} {rt : FieldType} {post : S → Prop} {ra : S → Nat} {w1 : S → va_W} {t1 : S → List (ClassId × FieldType)} (hA : A = va_A wc sz) (hQ : Q = MQ below (va_Qr post (gq_Br D (va_A wc sz) ra w1 t1) (va_A wc sz)) args s k n (va_A wc sz)) (hr : meth.sig.returnType = some rt) {a : Nat} (hrt : (∃ n, rt = .object n) ∨ ∃ t, rt = .array t) (u : S) (hp : post u) (ha : a = ra u) (hw : w1 u = ws) (ht : t1 u = tys) (hd : decode cc pc = .ok (.areturn, 1)) : gG p l e R s m args below meth c D A nL Q k n ws tys lv pc [.ref a] := by
  subst hA
  subst hQ
  subst hw
  subst ht
  exact fun H locs ls hP hD hK hS hl => W.aret F.1 F.2.1 hr hrt (Or.inr ⟨a, rfl⟩) (fun t hh hW => ⟨⟨u, a, rfl, hp, ha, by rw [hh]; exact hP, va_K.moved hW.alike hK, hD⟩, hS.F hh⟩) hS.2.2 hd F.2.2.2.2.2.2
theorem u_callVi (F : gF p s m args meth c cc own nL Ts A) {y : MethodName} {bytes : ByteArray} {maxL index nA fr lo : Nat} {ret : Option FieldType} {wy : List Cond} {b : Nat} {As : List Value} {S : Type} {post : Int32 → S → Prop} {w1 : S → va_W} (hM : ∀ sz : Nat, Ki l y wy fr lo 0 0 D (.ref b :: As) ws tys sz post w1 (fun _ => tys)) {C : String} {ci : Nat} {T : u_T} {N : Nat} {fs : List Value} (cw : CallW R s args own C index y bytes maxL ret wy (gR fr 0 0 lo) 0 0 nA) (hci : vwCl[ci]? = some (C, T, N)) (q0 : Nat) (hb0 : ws[q0]? = some (b, .inr (ci, fs))) (hn : As.length = nA) (hroom : (st.map fun v => v.category).sum ≤ 8) (hf : k ≤ R.cells ∧ n ≤ R.slots) (hd : decode cc pc = .ok (.invokevirtual index, 3)) (kk : ∀ (r : Int32) (u : S), post r u → gG p l e R s m args below meth c D A nL Q k n (w1 u) tys lv (pc + 3) (.int r :: st)) : gG p l e R s m args below meth c D A nL Q k n ws tys lv pc (As.reverse ++ .ref b :: st) := g_callVi (k := k) (n := n) (wc := ws) (wr := []) F (List.range ws.length) [] (List.range tys.length) (gu_rm ws) (gu_fm ws) (gu_rg _) rfl rfl (fun _ h => absurd h List.not_mem_nil) (gu_fm tys) hM cw hci q0 hb0 hn hroom hf hd (fun r u h9 => kk r u h9)
theorem u_callVv (F : gF p s m args meth c cc own nL Ts A) {y : MethodName} {bytes : ByteArray} {maxL index nA fr lo : Nat} {ret : Option FieldType} {wy : List Cond} {b : Nat} {As : List Value} {S : Type} {post : S → Prop} {w1 : S → va_W} (hM : ∀ sz : Nat, Kv l y wy fr lo 0 0 D (.ref b :: As) ws tys sz post w1 (fun _ => tys)) {C : String} {ci : Nat} {T : u_T} {N : Nat} {fs : List Value} (cw : CallW R s args own C index y bytes maxL ret wy (gR fr 0 0 lo) 0 0 nA) (hci : vwCl[ci]? = some (C, T, N)) (q0 : Nat) (hb0 : ws[q0]? = some (b, .inr (ci, fs))) (hn : As.length = nA) (hroom : (st.map fun v => v.category).sum ≤ 8) (hf : k ≤ R.cells ∧ n ≤ R.slots) (hd : decode cc pc = .ok (.invokevirtual index, 3)) (kk : ∀ (u : S), post u → gG p l e R s m args below meth c D A nL Q k n (w1 u) tys lv (pc + 3) st) : gG p l e R s m args below meth c D A nL Q k n ws tys lv pc (As.reverse ++ .ref b :: st) := g_callVv (k := k) (n := n) (wc := ws) (wr := []) F (List.range ws.length) [] (List.range tys.length) (gu_rm ws) (gu_fm ws) (gu_rg _) rfl rfl (fun _ h => absurd h List.not_mem_nil) (gu_fm tys) hM cw hci q0 hb0 hn hroom hf hd (fun u h9 => kk u h9)
theorem u_callVr (F : gF p s m args meth c cc own nL Ts A) {y : MethodName} {bytes : ByteArray} {maxL index nA fr lo : Nat} {ret : Option FieldType} {wy : List Cond} {b : Nat} {As : List Value} {S : Type} {post : S → Prop} {ra : S → Nat} {w1 : S → va_W} (hM : ∀ sz : Nat, Kr l y wy fr lo 0 0 D (.ref b :: As) ws tys sz post ra w1 (fun _ => tys)) {C : String} {ci : Nat} {T : u_T} {N : Nat} {fs : List Value} (cw : CallW R s args own C index y bytes maxL ret wy (gR fr 0 0 lo) 0 0 nA) (hci : vwCl[ci]? = some (C, T, N)) (q0 : Nat) (hb0 : ws[q0]? = some (b, .inr (ci, fs))) (hn : As.length = nA) (hroom : (st.map fun v => v.category).sum ≤ 8) (hf : k ≤ R.cells ∧ n ≤ R.slots) (hd : decode cc pc = .ok (.invokevirtual index, 3)) (kk : ∀ (u : S), post u → gG p l e R s m args below meth c D A nL Q k n (w1 u) tys lv (pc + 3) (.ref (ra u) :: st)) : gG p l e R s m args below meth c D A nL Q k n ws tys lv pc (As.reverse ++ .ref b :: st) := g_callVr (k := k) (n := n) (wc := ws) (wr := []) F (List.range ws.length) [] (List.range tys.length) (gu_rm ws) (gu_fm ws) (gu_rg _) rfl rfl (fun _ h => absurd h List.not_mem_nil) (gu_fm tys) hM cw hci q0 hb0 hn hroom hf hd (fun u h9 => kk u h9)
theorem u_callSi (F : gF p s m args meth c cc own nL Ts A) {y : MethodName} {bytes : ByteArray} {maxL index nA fr lo : Nat} {ret : Option FieldType} {wy : List Cond} {As : List Value} {S : Type} {post : Int32 → S → Prop} {w1 : S → va_W} (hM : ∀ sz : Nat, Ki l y wy fr lo 0 0 D As ws tys sz post w1 (fun _ => tys)) (cw : CallB R s args own index y bytes maxL ret wy (gR fr 0 0 lo) 0 0 nA ∧ (Cond.static y).before args s = true) (hn : As.length = nA) (hroom : (st.map fun v => v.category).sum ≤ 8) (hf : k ≤ R.cells ∧ n ≤ R.slots) (hd : decode cc pc = .ok (.invokestatic index, 3)) (kk : ∀ (r : Int32) (u : S), post r u → gG p l e R s m args below meth c D A nL Q k n (w1 u) tys lv (pc + 3) (.int r :: st)) : gG p l e R s m args below meth c D A nL Q k n ws tys lv pc (As.reverse ++ st) := g_callSi (k := k) (n := n) (wc := ws) (wr := []) F (List.range ws.length) [] (List.range tys.length) (gu_rm ws) (gu_fm ws) (gu_rg _) rfl rfl (fun _ h => absurd h List.not_mem_nil) (gu_fm tys) hM cw hn hroom hf hd (fun r u h9 => kk r u h9)
theorem u_callSv (F : gF p s m args meth c cc own nL Ts A) {y : MethodName} {bytes : ByteArray} {maxL index nA fr lo : Nat} {ret : Option FieldType} {wy : List Cond} {As : List Value} {S : Type} {post : S → Prop} {w1 : S → va_W} (hM : ∀ sz : Nat, Kv l y wy fr lo 0 0 D As ws tys sz post w1 (fun _ => tys)) (cw : CallB R s args own index y bytes maxL ret wy (gR fr 0 0 lo) 0 0 nA ∧ (Cond.static y).before args s = true) (hn : As.length = nA) (hroom : (st.map fun v => v.category).sum ≤ 8) (hf : k ≤ R.cells ∧ n ≤ R.slots) (hd : decode cc pc = .ok (.invokestatic index, 3)) (kk : ∀ (u : S), post u → gG p l e R s m args below meth c D A nL Q k n (w1 u) tys lv (pc + 3) st) : gG p l e R s m args below meth c D A nL Q k n ws tys lv pc (As.reverse ++ st) := g_callSv (k := k) (n := n) (wc := ws) (wr := []) F (List.range ws.length) [] (List.range tys.length) (gu_rm ws) (gu_fm ws) (gu_rg _) rfl rfl (fun _ h => absurd h List.not_mem_nil) (gu_fm tys) hM cw hn hroom hf hd (fun u h9 => kk u h9)
theorem u_callSr (F : gF p s m args meth c cc own nL Ts A) {y : MethodName} {bytes : ByteArray} {maxL index nA fr lo : Nat} {ret : Option FieldType} {wy : List Cond} {As : List Value} {S : Type} {post : S → Prop} {ra : S → Nat} {w1 : S → va_W} (hM : ∀ sz : Nat, Kr l y wy fr lo 0 0 D As ws tys sz post ra w1 (fun _ => tys)) (cw : CallB R s args own index y bytes maxL ret wy (gR fr 0 0 lo) 0 0 nA ∧ (Cond.static y).before args s = true) (hn : As.length = nA) (hroom : (st.map fun v => v.category).sum ≤ 8) (hf : k ≤ R.cells ∧ n ≤ R.slots) (hd : decode cc pc = .ok (.invokestatic index, 3)) (kk : ∀ (u : S), post u → gG p l e R s m args below meth c D A nL Q k n (w1 u) tys lv (pc + 3) (.ref (ra u) :: st)) : gG p l e R s m args below meth c D A nL Q k n ws tys lv pc (As.reverse ++ st) := g_callSr (k := k) (n := n) (wc := ws) (wr := []) F (List.range ws.length) [] (List.range tys.length) (gu_rm ws) (gu_fm ws) (gu_rg _) rfl rfl (fun _ h => absurd h List.not_mem_nil) (gu_fm tys) hM cw hn hroom hf hd (fun u h9 => kk u h9)
theorem u_call0 (F : gF p s m args meth c cc own nL Ts A) {y : MethodName} {bytes : ByteArray} {maxL index nA fr lo : Nat} {ret : Option FieldType} {wy : List Cond} {As : List Value} {S : Type} {post : Int32 → S → Prop} (hM : ∀ sz : Nat, Ki l y wy fr lo 0 0 D As [] [] sz post (fun (_ : S) => []) (fun _ => [])) (cw : CallB R s args own index y bytes maxL ret wy (gR fr 0 0 lo) 0 0 nA ∧ (Cond.static y).before args s = true) (hn : As.length = nA) (hroom : (st.map fun v => v.category).sum ≤ 8) (hf : k ≤ R.cells ∧ n ≤ R.slots) (hd : decode cc pc = .ok (.invokestatic index, 3)) (kk : ∀ (r : Int32) (u : S), post r u → gG p l e R s m args below meth c D A nL Q k n ws tys lv (pc + 3) (.int r :: st)) : gG p l e R s m args below meth c D A nL Q k n ws tys lv pc (As.reverse ++ st) := g_callSi (k := k) (n := n) (wc := []) (wr := ws) F [] (List.range ws.length) [] rfl rfl rfl (gu_rm ws) (gu_rg _) (fun _ _ h => absurd h List.not_mem_nil) rfl hM cw hn hroom hf hd (fun r u h9 => by rw [List.append_nil]; exact kk r u h9)
end GW
