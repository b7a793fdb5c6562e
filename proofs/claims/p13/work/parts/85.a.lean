theorem law_Z {args : Array Value} {s : State} (hts : ∀ w ∈ lw_tbl, w.before args s = true) (hgv : (Jvm.Cond.and given_1 narrow_1).before args s = true) : ∃ tz : Nat, gz_U tz (fun q => s.heap.size ≤ q) s s.heap := by
  have hs := flat_of_before _ hgv
  have hA : ∀ a : Nat, a < s.heap.size → ¬ (fun q : Nat => s.heap.size ≤ q) a := fun a h => Nat.not_le.mpr h
  have harr : (Cond.arrayOf (.static "QuietCut$Shop" "UNTOLD" "[I") .int).before args s = true := hs _ (by decide +kernel)
  have hlen := va_eqt (hs (Cond.eq (.length (.static "QuietCut$Shop" "UNTOLD" "[I")) (.int 12)) (by decide +kernel))
  have e0 := va_eqt (hs (Cond.eq (.elem (.static "QuietCut$Shop" "UNTOLD" "[I") (.int 0)) (.int 8)) (by decide +kernel))
  have e1 := va_eqt (hs (Cond.eq (.elem (.static "QuietCut$Shop" "UNTOLD" "[I") (.int 1)) (.int 3)) (by decide +kernel))
  have e2 := va_eqt (hs (Cond.eq (.elem (.static "QuietCut$Shop" "UNTOLD" "[I") (.int 2)) (.int 4)) (by decide +kernel))
  have e3 := va_eqt (hs (Cond.eq (.elem (.static "QuietCut$Shop" "UNTOLD" "[I") (.int 3)) (.int 8)) (by decide +kernel))
  have e4 := va_eqt (hs (Cond.eq (.elem (.static "QuietCut$Shop" "UNTOLD" "[I") (.int 4)) (.int 8)) (by decide +kernel))
  have e5 := va_eqt (hs (Cond.eq (.elem (.static "QuietCut$Shop" "UNTOLD" "[I") (.int 5)) (.int 2)) (by decide +kernel))
  have e6 := va_eqt (hs (Cond.eq (.elem (.static "QuietCut$Shop" "UNTOLD" "[I") (.int 6)) (.int 2)) (by decide +kernel))
  have e7 := va_eqt (hs (Cond.eq (.elem (.static "QuietCut$Shop" "UNTOLD" "[I") (.int 7)) (.int 500)) (by decide +kernel))
  have e8 := va_eqt (hs (Cond.eq (.elem (.static "QuietCut$Shop" "UNTOLD" "[I") (.int 8)) (.int 20)) (by decide +kernel))
  have e9 := va_eqt (hs (Cond.eq (.elem (.static "QuietCut$Shop" "UNTOLD" "[I") (.int 9)) (.int 4)) (by decide +kernel))
  have e10 := va_eqt (hs (Cond.eq (.elem (.static "QuietCut$Shop" "UNTOLD" "[I") (.int 10)) (.int 1)) (by decide +kernel))
  have e11 := va_eqt (hs (Cond.eq (.elem (.static "QuietCut$Shop" "UNTOLD" "[I") (.int 11)) (.int 1)) (by decide +kernel))
  obtain ⟨tz, hv, hT⟩ := va_Tof (A := fun q => s.heap.size ≤ q) (N := 12) (f := fun j => .int (gz_untold j)) (by decide) harr hlen (fun j hj => by
    rcases (show j = 0 ∨ j = 1 ∨ j = 2 ∨ j = 3 ∨ j = 4 ∨ j = 5 ∨ j = 6 ∨ j = 7 ∨ j = 8 ∨ j = 9 ∨ j = 10 ∨ j = 11 by omega) with rfl | rfl | rfl | rfl | rfl | rfl | rfl | rfl | rfl | rfl | rfl | rfl
    · exact e0
    · exact e1
    · exact e2
    · exact e3
    · exact e4
    · exact e5
    · exact e6
    · exact e7
    · exact e8
    · exact e9
    · exact e10
    · exact e11) hA
  have htl : tz < s.heap.size := by
    obtain ⟨cell, h1, -⟩ := hT
    exact (Array.getElem?_eq_some_iff.mp h1).1
  refine ⟨tz, va_Zof (hts _ (by decide +kernel)) (hts _ (by decide +kernel)) hv hA, hT, htl, hA tz htl, va_AOA.of (hts _ (by decide +kernel)), va_Nw.of rfl (hts _ (by decide +kernel)), va_Nw.of rfl (hts _ (by decide +kernel)), va_Nw.of rfl (hts _ (by decide +kernel)), va_Zqof (hts _ (by decide +kernel)) (hts _ (by decide +kernel)) (hs _ (by decide +kernel)) hA, va_Zqof (hts _ (by decide +kernel)) (hts _ (by decide +kernel)) (hs _ (by decide +kernel)) hA⟩
theorem law_K {args : Array Value} {s : State} (hts : ∀ w ∈ lw_tbl, w.before args s = true) : ∃ (D : va_G) (cI cII cB cZ : ClassId), va_K D vwCl [(cI, .int), (cII, .array .int), (cB, .byte), (cZ, .boolean)] s := by
  obtain ⟨c0, i0, h0⟩ := u_known (C := RX0) (T := TX0) (N := 8) (n := 8) hts (fun w h => wsL_law_in w (inlX0 w h)) (hts (.instantiable RX0 8) (by decide +kernel))
  obtain ⟨c1, i1, h1⟩ := u_known (C := RX2) (T := TX2) (N := 10) (n := 10) hts (fun w h => wsL_law_in w (inlX2 w h)) (hts (.instantiable RX2 10) (by decide +kernel))
  obtain ⟨c2, i2, h2⟩ := u_known (C := RX3) (T := TX3) (N := 9) (n := 9) hts (fun w h => wsL_law_in w (inlX3 w h)) (hts (.instantiable RX3 9) (by decide +kernel))
  obtain ⟨c3, i3, h3⟩ := u_known (C := RX4) (T := TX4) (N := 12) (n := 12) hts (fun w h => wsL_law_in w (inlX4 w h)) (hts (.instantiable RX4 12) (by decide +kernel))
  obtain ⟨c4, i4, h4⟩ := u_known (C := RX5) (T := TX5) (N := 20) (n := 20) hts (fun w h => wsL_law_in w (inlX5 w h)) (hts (.instantiable RX5 20) (by decide +kernel))
  obtain ⟨c5, i5, h5⟩ := u_known (C := RX6) (T := TX6) (N := 5) (n := 5) hts (fun w h => wsL_law_in w (inlX6 w h)) (hts (.instantiable RX6 5) (by decide +kernel))
  obtain ⟨c6, i6, h6⟩ := u_known (C := RX7) (T := TX7) (N := 4) (n := 4) hts (fun w h => wsL_law_in w (inlX7 w h)) (hts (.instantiable RX7 4) (by decide +kernel))
  obtain ⟨c7, i7, h7⟩ := u_known (C := RX8) (T := TX8) (N := 7) (n := 7) hts (fun w h => wsL_law_in w (inlX8 w h)) (hts (.instantiable RX8 7) (by decide +kernel))
  obtain ⟨c8, i8, h8⟩ := u_known (C := RX9) (T := TX9) (N := 3) (n := 3) hts (fun w h => wsL_law_in w (inlX9 w h)) (hts (.instantiable RX9 3) (by decide +kernel))
  obtain ⟨c9, i9, h9⟩ := u_known (C := RX10) (T := TX10) (N := 6) (n := 6) hts (fun w h => wsL_law_in w (inlX10 w h)) (hts (.instantiable RX10 6) (by decide +kernel))
  obtain ⟨c10, i10, h10⟩ := u_known (C := RX11) (T := TX11) (N := 14) (n := 14) hts (fun w h => wsL_law_in w (inlX11 w h)) (hts (.instantiable RX11 14) (by decide +kernel))
  obtain ⟨c11, i11, h11⟩ := u_known (C := RX12) (T := TX12) (N := 6) (n := 6) hts (fun w h => wsL_law_in w (inlX12 w h)) (hts (.instantiable RX12 6) (by decide +kernel))
  obtain ⟨c12, i12, h12⟩ := u_known (C := RX13) (T := TX13) (N := 73) (n := 73) hts (fun w h => wsL_law_in w (inlX13 w h)) (hts (.instantiable RX13 73) (by decide +kernel))
  obtain ⟨dC, dI, hKc⟩ : ∃ (dC : Nat → ClassId) (dI : Nat → Nat → Nat), ∀ (k : Nat) (q : vw_C), vwCl[k]? = some q → u_Kn s q.1 q.2.1 q.2.2 (dC k) (dI k) := by
    refine ⟨fun k => match k with | 0 => c0 | 1 => c1 | 2 => c2 | 3 => c3 | 4 => c4 | 5 => c5 | 6 => c6 | 7 => c7 | 8 => c8 | 9 => c9 | 10 => c10 | 11 => c11 | _ => c12, fun k => match k with | 0 => i0 | 1 => i1 | 2 => i2 | 3 => i3 | 4 => i4 | 5 => i5 | 6 => i6 | 7 => i7 | 8 => i8 | 9 => i9 | 10 => i10 | 11 => i11 | _ => i12, ?_⟩
    intro k q hq
    match k, hq with
    | 0, hq => cases hq; exact h0
    | 1, hq => cases hq; exact h1
    | 2, hq => cases hq; exact h2
    | 3, hq => cases hq; exact h3
    | 4, hq => cases hq; exact h4
    | 5, hq => cases hq; exact h5
    | 6, hq => cases hq; exact h6
    | 7, hq => cases hq; exact h7
    | 8, hq => cases hq; exact h8
    | 9, hq => cases hq; exact h9
    | 10, hq => cases hq; exact h10
    | 11, hq => cases hq; exact h11
    | 12, hq => cases hq; exact h12
    | k + 13, hq => simp [vwCl] at hq
  obtain ⟨cI, kI, mI, a1, a2, a3⟩ := Cond.arrayClass_spec (hts (.arrayClass .int) (by decide +kernel))
  obtain ⟨cB, kB, mB, b1, b2, b3⟩ := Cond.arrayClass_spec (hts (.arrayClass .byte) (by decide +kernel))
  obtain ⟨cZ, kZ, mZ, z1, z2, z3⟩ := Cond.arrayClass_spec (hts (.arrayClass .boolean) (by decide +kernel))
  obtain ⟨mJ, cII, kJ, -, -, j2, j3, j1⟩ := va_AOA.spec (va_AOA.of (hts (.arrayOver (.array .int)) (by decide +kernel)))
  have ofK : ∀ {cA : ClassId} {kA : Class} {comp : ClassId} {ty : FieldType}, s.vm.classes[cA]? = some kA → kA.kind = .array comp ty → ArrOfT s cA ty := fun h2 h3 n z => ⟨fun k h => (by cases h), _, h2, _, h3⟩
  refine ⟨(dC, dI), cI, cII, cB, cZ, hKc, ?_⟩
  intro k q hq
  match k, hq with
  | 0, hq => cases hq; exact ⟨ofK a2 a3, a1⟩
  | 1, hq => cases hq; exact ⟨ofK j2 j3, j1⟩
  | 2, hq => cases hq; exact ⟨ofK b2 b3, b1⟩
  | 3, hq => cases hq; exact ⟨ofK z2 z3, z1⟩
  | k + 4, hq => simp at hq
