theorem tFd.lo {b' : Nat → Int32} : ∀ {vs : List Int32} {b : Nat → Int32} {L : Int}, tFd b b' L vs → ∀ i : Nat, (i : Int) < L → b' i = b i
  | [], b, L, h, i, hi => by
    have h1 : b' = b := h
    rw [h1]
  | v :: vs, b, L, h, i, hi => by
    obtain ⟨b1, h1, h2⟩ := h
    rw [tFd.lo h2 i (by omega)]
    exact h1.1 i hi
section GLW
variable {p : Program} {l : Launch} {e : Env} {R : Room} {s : State} {m : MethodId} {args : Array Value} {below : List Frame} {meth : Method} {c : Code} {cc : ByteArray} {own : String} {nL : Nat} {Ts : List Cond} {D : va_G} {A : Nat → Prop} {Q : State → Prop} {k n : Nat} {ws ws' : va_W} {tys : List (ClassId × FieldType)} {lv lv' : List (Nat × Value)} {pc : Nat} {st : List Value}
theorem u2w_callVi (F : gF p s m args meth c cc own nL Ts A) {y : MethodName} {bytes : ByteArray} {maxL index nA fr lo : Nat} {ret : Option FieldType} {wy : List Cond} {b : Nat} {As : List Value} {wc wr : va_W} {hh : List (Nat × Nat × Nat × Nat)} {S : Type} {post : Int32 → S → Prop} {w1 : S → va_W} {t1 : S → List (ClassId × FieldType)} (hM : ∀ sz : Nat, Ki l y wy fr lo 0 0 D (.ref b :: As) wc tys sz post w1 t1) {C : String} {ci : Nat} {T : u_T} {N : Nat} {fs : List Value} (cw : gw_CW R s args own C index y bytes maxL ret hh wy (gR fr 0 0 lo) 0 0 nA) (hci : vwCl[ci]? = some (C, T, N)) (q0 : Nat) (hb0 : wc[q0]? = some (b, .inr (ci, fs))) (hn : As.length = nA) (hroom : (st.map fun v => v.category).sum ≤ 8) (hf : k ≤ R.cells ∧ n ≤ R.slots) (hd : decode cc pc = .ok (.invokevirtual index, 3)) (kk : ∀ (r : Int32) (u : S), post r u → gG p l e R s m args below meth c D A nL Q k n (wr ++ w1 u) tys lv (pc + 3) (.int r :: st)) : gG p l e R s m args below meth c D A nL Q k n (wc ++ wr) tys lv pc (As.reverse ++ .ref b :: st) := gw_callVi F (List.range wc.length) ((List.range wr.length).map (wc.length + ·)) (List.range tys.length) (u2_C wc wr) (u2_fm (u2_C wc wr)) (gu_rg _) (u2_R wc wr) (u2_nR _ _) (u2_dis _ _) (u2_T tys) hM cw hci q0 hb0 hn hroom hf hd kk
theorem u2wz_callVi {Z : (Nat → Prop) → State → Heap → Prop} (F : gF p s m args meth c cc own nL Ts A) {y : MethodName} {bytes : ByteArray} {maxL index nA fr lo : Nat} {ret : Option FieldType} {wy : List Cond} {b : Nat} {As : List Value} {wc wr : va_W} {hh : List (Nat × Nat × Nat × Nat)} (hst : gzS Z) (hZ : Z A s s.heap) {S : Type} {post : Int32 → S → Prop} {w1 : S → va_W} (hM : ∀ sz : Nat, KiZ Z l y wy fr lo D (.ref b :: As) wc tys sz post w1) {C : String} {ci : Nat} {T : u_T} {N : Nat} {fs : List Value} (cw : gw_CW R s args own C index y bytes maxL ret hh wy (gR fr 0 0 lo) 0 0 nA) (hci : vwCl[ci]? = some (C, T, N)) (q0 : Nat) (hb0 : wc[q0]? = some (b, .inr (ci, fs))) (hn : As.length = nA) (hroom : (st.map fun v => v.category).sum ≤ 8) (hf : k ≤ R.cells ∧ n ≤ R.slots) (hd : decode cc pc = .ok (.invokevirtual index, 3)) (kk : ∀ (r : Int32) (u : S), post r u → gG p l e R s m args below meth c D A nL Q k n (wr ++ w1 u) tys lv (pc + 3) (.int r :: st)) : gG p l e R s m args below meth c D A nL Q k n (wc ++ wr) tys lv pc (As.reverse ++ .ref b :: st) := by
  intro H locs ls hP hD hK hS hl
  have hPc := hP.sub _ (u2_fm (u2_C wc wr))
  have hDc := hD.sub _ (gu_rg _) (u2_C wc wr)
  have hFc := va_free (wc := wc) hD hS F.2.2.2.2.2.1 _ (u2_C wc wr)
  refine va_calli (gw_runV (As := As) (rest := st) ⟨F.1, F.2.1, F.2.2.1, F.2.2.2.1, F.2.2.2.2.1⟩ (hM H.size) cw ⟨gq_blindZ hst, va_recv hK hPc hci hb0, gq_preZ hst hZ hPc hK hDc hS hFc⟩ rfl hn hl.1 rfl (lv_room hroom) hd hf) hS (fun q _ h => hFc q h) hFc (fun r u t H1 locs1 ht hvm hw hB hz1 hk1 hS1 => ?_)
  obtain ⟨hP1, hK1, hD1⟩ := hB
  rw [ht] at hP1
  obtain ⟨hP2, hD2⟩ := va_join hP hD _ _ (u2_C wc wr) (u2_R wc wr) (u2_nR _ _) (u2_dis _ _) hk1 hFc hP1 hD1
  exact kk r u hw H1 locs1 ls hP2 hD2 hK hS1 hl
end GLW
