def xSl : List Int32 := [0, 1, 2, 3, 5, 7, 8, 9, 20, 30, 0, 1, 2]
def xMo : List Int32 := [1, 1, 1, 2, 2, 1, 1, 1, 4, 6, 0, 0, 0]
def xLw : List Int32 := [4, 1, 1, 0, 0, 1, 0, 1, 0, 0, 0, 0, 0]
def xHg : List Int32 := [16, 6, 99, 200, 200, 9999, 9999, 12, 15, 9, 0, 0, 0]
def xWl : List Nat := [7, 5, 4, 5, 4, 5, 4, 5, 5, 4, 5, 4, 4]
def xWb : List (List Int32) := [[115, 101, 99, 116, 111, 114, 115], [114, 105, 110, 103, 115], [109, 97, 115, 115], [115, 116, 105, 102, 102], [100, 97, 109, 112], [108, 105, 109, 105, 116], [109, 97, 114, 107], [116, 117, 114, 110, 115], [116, 101, 101, 116, 104], [115, 119, 97, 121], [102, 111, 114, 99, 101], [119, 97, 108, 108], [119, 101, 97, 114]]
def xLl : List Nat := [0, 0, 0, 0, 0, 0, 0, 0, 0, 0, 2, 2, 1]
def xLb : List (List Int32) := [[], [], [], [], [], [], [], [], [], [], [104, 119], [108, 103], [104]]
def xCl (i : Nat) (zf : Nat → Nat) (A : Nat → Prop) (U : State) (H : Heap) : Prop := va_O "QuietCut$Clause" (zf (10 + i)) A U H ∧ va_OF "QuietCut$Clause" "word" "Ljava/lang/String;" (.ref (zf (30 + i))) (zf (10 + i)) A U H ∧ va_OF "QuietCut$Clause" "slot" "I" (.int (xSl.getD i 0)) (zf (10 + i)) A U H ∧ va_OF "QuietCut$Clause" "most" "I" (.int (xMo.getD i 0)) (zf (10 + i)) A U H ∧ va_OF "QuietCut$Clause" "low" "I" (.int (xLw.getD i 0)) (zf (10 + i)) A U H ∧ va_OF "QuietCut$Clause" "high" "I" (.int (xHg.getD i 0)) (zf (10 + i)) A U H ∧ va_OF "QuietCut$Clause" "letters" "Ljava/lang/String;" (.ref (zf (70 + i))) (zf (10 + i)) A U H ∧ zS (zf (30 + i)) (zf (50 + i)) (xWl.getD i 0) (fun j => (xWb.getD i []).getD j 0) A U H ∧ zS (zf (70 + i)) (zf (90 + i)) (xLl.getD i 0) (fun j => (xLb.getD i []).getD j 0) A U H
def xZ (zf : Nat → Nat) (A : Nat → Prop) (U : State) (H : Heap) : Prop := gz_U (zf 1) A U H ∧ zS (zf 2) (zf 3) 8 (fun j => ([59, 40, 41, 43, 45, 42, 47, 37] : List Int32).getD j 0) A U H ∧ vk_R RX10 50 ";()+-*/%" (zf 2) U ∧ va_Z "QuietCut$ShopReader" "CLAUSES" "[LQuietCut$Clause;" (.ref (zf 0)) A U H ∧ va_T (.object "QuietCut$Clause") (zf 0) 13 (fun j => .ref (zf (10 + j))) A U H ∧ ∀ i, i < 13 → xCl i zf A U H
theorem gz_U.call {t : Nat} {A : Nat → Prop} {U : State} {g : JFrame} {mk : MethodId} {a : Array Value} (h : gz_U t A U U.heap) : gz_U t A (U.calling g mk a) (U.calling g mk a).heap := ⟨h.1.moved (U := U.calling g mk a) (Vm.Alike.refl U.vm), va_T.moved (U := U.calling g mk a) (Vm.Alike.refl U.vm) h.2.1, h.2.2.1, h.2.2.2.1, va_AOA.moved (U := U.calling g mk a) (Vm.Alike.refl U.vm) h.2.2.2.2.1, va_Nw.same rfl rfl h.2.2.2.2.2.1, va_Nw.same rfl rfl h.2.2.2.2.2.2.1, va_Nw.same rfl rfl h.2.2.2.2.2.2.2.1, h.2.2.2.2.2.2.2.2.1.moved (U := U.calling g mk a) (Vm.Alike.refl U.vm), h.2.2.2.2.2.2.2.2.2.moved (U := U.calling g mk a) (Vm.Alike.refl U.vm)⟩
theorem xZ_st {zf : Nat → Nat} : gzS (xZ zf) := ⟨fun A B s U H locs h hS hAB hW => ⟨gz_U.to h.1 hS hAB hW, zS_st.1 A B s U H locs h.2.1 hS hAB hW, vk_R.warm hW h.2.2.1, ((h.2.2.2.1.kept hS.2.1).narrow hAB).moved hW.alike, ((h.2.2.2.2.1.kept hS.2.1).narrow hAB).moved hW.alike, fun i hi => ⟨(((h.2.2.2.2.2 i hi).1.kept hS.2.1).narrow hAB).moved hW.alike, (((h.2.2.2.2.2 i hi).2.1.kept hS.2.1).narrow hAB).moved hW.alike, (((h.2.2.2.2.2 i hi).2.2.1.kept hS.2.1).narrow hAB).moved hW.alike, (((h.2.2.2.2.2 i hi).2.2.2.1.kept hS.2.1).narrow hAB).moved hW.alike, (((h.2.2.2.2.2 i hi).2.2.2.2.1.kept hS.2.1).narrow hAB).moved hW.alike, (((h.2.2.2.2.2 i hi).2.2.2.2.2.1.kept hS.2.1).narrow hAB).moved hW.alike, (((h.2.2.2.2.2 i hi).2.2.2.2.2.2.1.kept hS.2.1).narrow hAB).moved hW.alike, zS_st.1 A B s U H locs (h.2.2.2.2.2 i hi).2.2.2.2.2.2.2.1 hS hAB hW, zS_st.1 A B s U H locs (h.2.2.2.2.2 i hi).2.2.2.2.2.2.2.2 hS hAB hW⟩⟩,
  fun A U g mk a h => ⟨gz_U.call h.1, zS_st.2 A U g mk a h.2.1, vk_R.same rfl h.2.2.1, h.2.2.2.1.moved (U := U.calling g mk a) (Vm.Alike.refl U.vm), h.2.2.2.2.1.moved (U := U.calling g mk a) (Vm.Alike.refl U.vm), fun i hi => ⟨(h.2.2.2.2.2 i hi).1.moved (U := U.calling g mk a) (Vm.Alike.refl U.vm), (h.2.2.2.2.2 i hi).2.1.moved (U := U.calling g mk a) (Vm.Alike.refl U.vm), (h.2.2.2.2.2 i hi).2.2.1.moved (U := U.calling g mk a) (Vm.Alike.refl U.vm), (h.2.2.2.2.2 i hi).2.2.2.1.moved (U := U.calling g mk a) (Vm.Alike.refl U.vm), (h.2.2.2.2.2 i hi).2.2.2.2.1.moved (U := U.calling g mk a) (Vm.Alike.refl U.vm), (h.2.2.2.2.2 i hi).2.2.2.2.2.1.moved (U := U.calling g mk a) (Vm.Alike.refl U.vm), (h.2.2.2.2.2 i hi).2.2.2.2.2.2.1.moved (U := U.calling g mk a) (Vm.Alike.refl U.vm), zS_st.2 A U g mk a (h.2.2.2.2.2 i hi).2.2.2.2.2.2.2.1, zS_st.2 A U g mk a (h.2.2.2.2.2 i hi).2.2.2.2.2.2.2.2⟩⟩⟩
section GYT
variable {p : Program} {l : Launch} {e : Env} {R : Room} {s : State} {m : MethodId} {args : Array Value} {below : List Frame} {meth : Method} {c : Code} {cc : ByteArray} {own : String} {nL : Nat} {Ts : List Cond} {D : va_G} {A : Nat → Prop} {Q : State → Prop} {k n : Nat} {ws ws' : va_W} {tys : List (ClassId × FieldType)} {lv lv' : List (Nat × Value)} {pc : Nat} {st : List Value}
theorem uz_tq (F : gF p s m args meth c cc own nL Ts A) {t N : Nat} {f : Nat → Value} {C : String} (hT : va_T (.object C) t N f A s s.heap) {i : Int32} (b : Int) (hi : i.toInt = b) (h0 : 0 ≤ b) (h1 : b < N) {v : Value} (hv : f b.toNat = v) (hd : decode cc pc = .ok (.aaload, 1)) (kk : gG p l e R s m args below meth c D A nL Q k n ws tys lv (pc + 1) (v :: st)) : gG p l e R s m args below meth c D A nL Q k n ws tys lv pc (.int i :: .ref t :: st) := fun H locs ls hP hD hK hS hl => vb_tq F.1 F.2.1 hT hS (ti_in hi h0 h1) (by show f i.toInt.toNat = v; rw [hi]; exact hv) hd (kk H locs ls hP hD hK hS hl)
end GYT
theorem xQ.cast {f f' : Nat → Int32} {n n' o o' p p' t : Int} (h : xQ f n o p t) (e : f' = f) (en : n' = n) (eo : o' = o) (ep : p' = p) : xQ f' n' o' p' t := by
  rw [e, en, eo, ep]; exact h
theorem xFi.mk {j r : Nat} {G' : gS} {f : Nat → Int32} {n o p w : Int} (h : ∃ t, xQ f n o p t ∧ (w = 0 → 0 ≤ t)) (ho : o ≤ 4) (e : G' r = f) (e4 : (G' j 4).toInt = n) (e6 : (G' j 6).toInt = o) (e7 : (G' j 7).toInt = p) (e8 : (G' j 8).toInt = w) : xFi j r G' := by
  unfold xFi
  rw [e, e4, e6, e7, e8]
  exact ⟨h, ho⟩
theorem xNb.un {G G1 : gS} {L : List Nat} (h : xNb (G 19)) (hU : gu_un xcd L G G1) (hL : L.contains 1900 = false) : xNb (G1 19) := by
  rw [show G1 19 = G 19 from funext fun k => hU 19 k (fun h2 => by
    rw [show xcd 19 k = 1900 from rfl] at h2
    rw [List.contains_iff_mem.mpr h2] at hL
    cases hL)]
  exact h
theorem fill_1 {f : Nat → Int32} {v : Int32} {x y : Int} (h0 : 0 ≤ x) (hy : y = x + 1) (h : ∀ q : Nat, (q : Int) < x → f q = v) : ∀ q : Nat, (q : Int) < y → upd f x.toNat v q = v := fun q h2 => by
  by_cases e : q = x.toNat
  · exact if_pos e
  · rw [show upd f x.toNat v q = f q from if_neg e]; exact h q (by omega)
theorem sgn_8 {x : Int32} {r : Int} (h : zIx (fun j => ([59, 40, 41, 43, 45, 42, 47, 37] : List Int32).getD j 0) (8 : Nat) (Int32.toInt8 x).toInt32 r) (h0 : 0 ≤ x.toInt) (h1 : x.toInt ≤ 255) : 0 ≤ r ↔ tSg x.toInt := by
  have e := i8_toInt x h0 h1
  constructor
  · intro hr
    rcases h with ⟨a1, a2, a3, -⟩ | ⟨a1, -⟩
    · have a4 := congrArg Int32.toInt a3
      rw [e] at a4
      rcases (show r = 0 ∨ r = 1 ∨ r = 2 ∨ r = 3 ∨ r = 4 ∨ r = 5 ∨ r = 6 ∨ r = 7 by omega) with rfl | rfl | rfl | rfl | rfl | rfl | rfl | rfl
      · have a5 : (59 : Int) = _ := a4
        split at a5 <;> (show tSg _; omega)
      · have a5 : (40 : Int) = _ := a4
        split at a5 <;> (show tSg _; omega)
      · have a5 : (41 : Int) = _ := a4
        split at a5 <;> (show tSg _; omega)
      · have a5 : (43 : Int) = _ := a4
        split at a5 <;> (show tSg _; omega)
      · have a5 : (45 : Int) = _ := a4
        split at a5 <;> (show tSg _; omega)
      · have a5 : (42 : Int) = _ := a4
        split at a5 <;> (show tSg _; omega)
      · have a5 : (47 : Int) = _ := a4
        split at a5 <;> (show tSg _; omega)
      · have a5 : (37 : Int) = _ := a4
        split at a5 <;> (show tSg _; omega)
    · omega
  · intro hs
    rcases h with ⟨a1, -⟩ | ⟨a1, a2⟩
    · exact a1
    · exfalso
      have hx : (Int32.toInt8 x).toInt32.toInt = x.toInt := by rw [e, if_pos (by rcases hs with hs | hs | hs | hs | hs | hs | hs | hs <;> omega)]
      rcases hs with hs | hs | hs | hs | hs | hs | hs | hs
      · exact a2 0 (by decide) (Int32.toInt_inj.mp (by rw [hx, hs]; rfl))
      · exact a2 1 (by decide) (Int32.toInt_inj.mp (by rw [hx, hs]; rfl))
      · exact a2 2 (by decide) (Int32.toInt_inj.mp (by rw [hx, hs]; rfl))
      · exact a2 3 (by decide) (Int32.toInt_inj.mp (by rw [hx, hs]; rfl))
      · exact a2 4 (by decide) (Int32.toInt_inj.mp (by rw [hx, hs]; rfl))
      · exact a2 5 (by decide) (Int32.toInt_inj.mp (by rw [hx, hs]; rfl))
      · exact a2 6 (by decide) (Int32.toInt_inj.mp (by rw [hx, hs]; rfl))
      · exact a2 7 (by decide) (Int32.toInt_inj.mp (by rw [hx, hs]; rfl))
