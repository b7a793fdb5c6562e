/-! what is quiet for all of the spans -/
def pvB (Q : gS) (C : Nat → List Int) (h : Nat → Int32) (w : Int32) (a0 : Int) (a1 a2 a3 : Int32) (st da : Int) : Int := pvV Q (pvS Q C h w a0 a1 a2 a3 (Int32.ofInt st) (Int32.ofInt da))
def pvIn (Q : gS) (st da : Int) : Prop := (Q 0 3).toInt ≤ st ∧ st ≤ (Q 0 4).toInt ∧ (Q 0 5).toInt ≤ da ∧ da ≤ (Q 0 6).toInt
def pvAr (Q : gS) (a0 a1 a2 : Int) : Prop := 0 ≤ a0 ∧ a0 < (Q 0 1).toInt ∧ 1 ≤ a1 ∧ a1 ≤ 9 ∧ 1 ≤ a2 ∧ a2 ≤ 20
def pvA (Q : gS) (C : Nat → List Int) (h : Nat → Int32) (w : Int32) (a0 : Int) (a1 a2 a3 : Int32) : Prop := pvOk Q h a0 a2.toInt a3.toInt ∧ ∀ st da : Int, pvIn Q st da → pvB Q C h w a0 a1 a2 a3 st da = 0
theorem pvB_run {Q : gS} {C : Nat → List Int} {h : Nat → Int32} {w : Int32} {a0 : Int} {a1 a2 a3 st da : Int32} {r : Int} (e : r = pvV Q (pvS Q C h w a0 a1 a2 a3 st da)) : pvB Q C h w a0 a1 a2 a3 st.toInt da.toInt = r := by
  unfold pvB
  rw [Int32.ofInt_toInt, Int32.ofInt_toInt]
  exact e.symm
theorem pvB_eq {Q : gS} {C : Nat → List Int} {h g : Nat → Int32} {w : Int32} {r : Int} {a1 a2 a3 : Int32} {st da : Int} (e : ∀ q : Nat, q < 96 → h q = g q) (h0 : 0 ≤ r) (h1 : r ≤ 5) (hn : (Q 0 1).toInt ≤ 6) (hs : (Q 0 0).toInt ≤ 16) : pvB Q C h w r a1 a2 a3 st da = pvB Q C g w r a1 a2 a3 st da := by
  unfold pvB
  rw [pvS_eq e h0 h1 hn hs]
theorem pvA_eq {Q : gS} {C : Nat → List Int} {h g : Nat → Int32} {w : Int32} {r : Int} {a1 a2 a3 : Int32} (e : ∀ q : Nat, q < 96 → h q = g q) (h0 : 0 ≤ r) (h1 : r ≤ 5) (hn : (Q 0 1).toInt ≤ 6) (hs : (Q 0 0).toInt ≤ 16) : pvA Q C h w r a1 a2 a3 ↔ pvA Q C g w r a1 a2 a3 := by
  unfold pvA
  rw [pvOk_eq e h0 h1 hs]
  constructor
  · rintro ⟨x, y⟩
    exact ⟨x, fun st da hd => by rw [← pvB_eq e h0 h1 hn hs]; exact y st da hd⟩
  · rintro ⟨x, y⟩
    exact ⟨x, fun st da hd => by rw [pvB_eq e h0 h1 hn hs]; exact y st da hd⟩
/-- spans that hold something -/
def lSp (G : gS) : Prop := (G 18 3).toInt ≤ (G 18 4).toInt ∧ (G 18 5).toInt ≤ (G 18 6).toInt
/-- a text's spans hold something: the clause at hand, how many of its numbers, the latest, the numbers -/
def spI (c cnt lat : Int) (nu : Nat → Int32) : Prop := (c ≠ -1 → c < 10 → 0 ≤ cnt ∧ cnt ≤ hMo c) ∧ (c = 3 ∧ cnt = 1 → (nu 3).toInt = lat) ∧ (¬ (c = 3 ∧ cnt = 1) → (nu 3).toInt ≤ (nu 4).toInt) ∧ (c = 4 ∧ cnt = 1 → (nu 5).toInt = lat) ∧ (¬ (c = 4 ∧ cnt = 1) → (nu 5).toInt ≤ (nu 6).toInt)
theorem hMo_v (c : Int) : 1 ≤ hMo c ∧ (c = 3 ∨ c = 4 → hMo c = 2) ∧ (¬ (c = 3 ∨ c = 4 ∨ c = 8 ∨ c = 9) → hMo c = 1) ∧ hMo c ≤ 6 := by
  unfold hMo
  repeat' split
  all_goals omega
theorem spI.none {c cnt lat : Int} {nu : Nat → Int32} (h3 : (nu 3).toInt ≤ (nu 4).toInt) (h5 : (nu 5).toInt ≤ (nu 6).toInt) (h : c = -1 ∨ cnt = 0) : spI c cnt lat nu := by
  have := hMo_v c
  exact ⟨fun a b => by omega, fun a => by omega, fun _ => h3, fun a => by omega, fun _ => h5⟩
theorem sp_O : ∀ {ts : List hTk} {c cnt lat cl : Int} {td : Nat → Int} {nu : Nat → Int32} {sg : Nat → sSt}, spI c cnt lat nu → (hO ts c cnt lat cl td nu sg).1 = 0 → (hO ts c cnt lat cl td nu sg).2.1 = -1 → ((hO ts c cnt lat cl td nu sg).2.2.2.1 3).toInt ≤ ((hO ts c cnt lat cl td nu sg).2.2.2.1 4).toInt ∧ ((hO ts c cnt lat cl td nu sg).2.2.2.1 5).toInt ≤ ((hO ts c cnt lat cl td nu sg).2.2.2.1 6).toInt
  | [], c, cnt, lat, cl, td, nu, sg, hI, h1, h2 => absurd (show (0 : Int) = -1 from h2) (by decide)
  | t :: ts, c, cnt, lat, cl, td, nu, sg, hI, h1, h2 => by
    have bad : ∀ f pl : Int, f ≠ 0 → (hBad f pl).1 = 0 → False := fun f pl hf h9 => hf h9
    obtain ⟨i1, i2, i3, i4, i5⟩ := hI
    unfold hO at *
    by_cases e1 : c = -1
    · rw [if_pos e1] at *
      by_cases e2 : t.1 = 0
      · rw [if_pos e2] at *
        exact ⟨i3 (by omega), i5 (by omega)⟩
      · rw [if_neg e2] at *
        by_cases e3 : t.2.2.2 = -1
        · rw [if_pos e3] at h1
          exact (bad _ _ (by decide) h1).elim
        · rw [if_neg e3] at *
          by_cases e4 : td t.2.2.2.toNat ≠ 0
          · rw [if_pos e4] at h1
            exact (bad _ _ (by decide) h1).elim
          · rw [if_neg e4] at *
            exact sp_O (spI.none (i3 (by omega)) (i5 (by omega)) (Or.inr rfl)) h1 h2
    · rw [if_neg e1] at *
      by_cases e2 : 10 ≤ c
      · rw [if_pos e2] at *
        by_cases e3 : t.1 = 3 ∧ t.2.2.1 = 59 ∧ (sg (c - 10).toNat).1 = 0 ∧ (sg (c - 10).toNat).2.2.2.1 = 0
        · rw [if_pos e3] at *
          exact sp_O (spI.none (i3 (by omega)) (i5 (by omega)) (Or.inl rfl)) h1 h2
        · rw [if_neg e3] at *
          by_cases e4 : (sTt (c - 10) t.1 t.2.2.1 (sg (c - 10).toNat)).1 = 0
          · rw [if_pos e4] at *
            exact sp_O (⟨fun _ q => by omega, i2, i3, i4, i5⟩ : spI c cnt lat nu) h1 h2
          · rw [if_neg e4] at h1
            exact (bad _ _ e4 h1).elim
      · obtain ⟨j1, j2⟩ := i1 e1 (by omega)
        obtain ⟨m1, m2, m3, m4⟩ := hMo_v c
        rw [if_neg e2] at *
        by_cases e3 : t.1 = 3 ∧ t.2.2.1 = 59 ∧ ((c = 8 ∨ c = 9) ∧ 0 < cnt ∨ ¬ (c = 8 ∨ c = 9) ∧ cnt = hMo c)
        · rw [if_pos e3] at *
          have k3 : (nu 3).toInt ≤ (nu 4).toInt := i3 (by omega)
          have k5 : (nu 5).toInt ≤ (nu 6).toInt := i5 (by omega)
          refine sp_O (spI.none ?_ ?_ (Or.inl rfl)) h1 h2
          · by_cases e4 : c = 8
            · rw [if_pos e4]; exact k3
            · rw [if_neg e4]
              by_cases e5 : c = 9
              · rw [if_pos e5]; exact k3
              · rw [if_neg e5]; exact k3
          · by_cases e4 : c = 8
            · rw [if_pos e4]; exact k5
            · rw [if_neg e4]
              by_cases e5 : c = 9
              · rw [if_pos e5]; exact k5
              · rw [if_neg e5]; exact k5
        · rw [if_neg e3] at *
          by_cases e4 : t.1 ≠ 2 ∨ (¬ (c = 8 ∨ c = 9) ∧ cnt = hMo c)
          · rw [if_pos e4] at h1
            exact (bad _ _ (by decide) h1).elim
          · rw [if_neg e4] at *
            by_cases e5 : t.2.2.1 < hLo c ∨ hHi c < t.2.2.1 ∨ (¬ (c = 8 ∨ c = 9) ∧ cnt = 1 ∧ (t.2.2.1 < lat ∨ lat + 3 < t.2.2.1))
            · rw [if_pos e5] at h1
              exact (bad _ _ (by decide) h1).elim
            · rw [if_neg e5] at *
              by_cases e6 : cnt = hMo c
              · rw [if_pos e6] at h1
                exact (bad _ _ (by decide) h1).elim
              · rw [if_neg e6] at *
                have hv : 0 ≤ t.2.2.1 ∧ t.2.2.1 ≤ 9999 := by
                  have a1 : 0 ≤ hLo c := by unfold hLo; repeat' split <;> omega
                  have a2 : hHi c ≤ 9999 := by unfold hHi; repeat' split <;> omega
                  omega
                have ev : (Int32.ofInt t.2.2.1).toInt = t.2.2.1 := by
                  rw [Int32.toInt_ofInt]
                  exact ti_bm (by omega) (by omega)
                have u : ∀ q : Nat, q ≠ (hSl c + cnt).toNat → upd nu (hSl c + cnt).toNat (Int32.ofInt t.2.2.1) q = nu q := fun q hq => if_neg hq
                have w : ∀ q : Nat, q = (hSl c + cnt).toNat → upd nu (hSl c + cnt).toNat (Int32.ofInt t.2.2.1) q = Int32.ofInt t.2.2.1 := fun q hq => if_pos hq
                refine sp_O (⟨fun _ _ => by omega, fun q => ?_, fun q => ?_, fun q => ?_, fun q => ?_⟩ : spI c (cnt + 1) t.2.2.1 _) h1 h2
                · have es : hSl c = 3 := by rw [q.1]; rfl
                  rw [w 3 (by omega), ev]
                · by_cases c3 : c = 3
                  · have es : hSl c = 3 := by rw [c3]; rfl
                    have hc1 : cnt = 1 := by omega
                    rw [u 3 (by omega), w 4 (by omega), ev, i2 ⟨c3, hc1⟩]
                    omega
                  · have es : (hSl c + cnt).toNat ≠ 3 ∧ (hSl c + cnt).toNat ≠ 4 := by
                      unfold hSl
                      repeat' split
                      all_goals omega
                    rw [u 3 (by omega), u 4 (by omega)]
                    exact i3 (by omega)
                · have es : hSl c = 5 := by rw [q.1]; rfl
                  rw [w 5 (by omega), ev]
                · by_cases c4 : c = 4
                  · have es : hSl c = 5 := by rw [c4]; rfl
                    have hc1 : cnt = 1 := by omega
                    rw [u 5 (by omega), w 6 (by omega), ev, i4 ⟨c4, hc1⟩]
                    omega
                  · have es : (hSl c + cnt).toNat ≠ 5 ∧ (hSl c + cnt).toNat ≠ 6 := by
                      unfold hSl
                      repeat' split
                      all_goals omega
                    rw [u 5 (by omega), u 6 (by omega)]
                    exact i5 (by omega)
theorem lSp.un {G G' : gS} {L : List Nat} (h : lSp G) (hU : gu_un xcd L G G') (hL : gNo L xSL = false) : lSp G' := by
  unfold lSp at *
  rw [show G' 18 = G 18 from funext fun k => hU 18 k (gNo.at hL (n := 1800) (by decide))]
  exact h
/-- the deepest feed above a floor -/
def dpR (P : Int → Prop) (fl r : Int) : Prop := (r = -1 ∧ ∀ f : Int, fl < f → 1 ≤ f → f ≤ 20 → ¬ P f) ∨ (fl < r ∧ 1 ≤ r ∧ r ≤ 20 ∧ P r ∧ ∀ f : Int, r < f → f ≤ 20 → ¬ P f)
theorem dpR.uniq {P : Int → Prop} {fl r r2 : Int} (h : dpR P fl r) (g : dpR P fl r2) : r = r2 := by
  rcases h with ⟨h1, h2⟩ | ⟨h1, h2, h3, h4, h5⟩ <;> rcases g with ⟨g1, g2⟩ | ⟨g1, g2, g3, g4, g5⟩
  · omega
  · exact absurd g4 (h2 r2 g1 g2 g3)
  · exact absurd h4 (g2 r h1 h2 h3)
  · rcases (show r < r2 ∨ r = r2 ∨ r2 < r by omega) with a | a | a
    · exact absurd g4 (h5 r2 a g3)
    · exact a
    · exact absurd h4 (g5 r a h3)
theorem dpR.to {P P' : Int → Prop} {fl r : Int} (e : ∀ f : Int, P f ↔ P' f) (h : dpR P fl r) : dpR P' fl r := by
  rcases h with ⟨h1, h2⟩ | ⟨h1, h2, h3, h4, h5⟩
  · exact Or.inl ⟨h1, fun f a b c d => h2 f a b c ((e f).mpr d)⟩
  · exact Or.inr ⟨h1, h2, h3, (e r).mp h4, fun f a b d => h5 f a b ((e f).mpr d)⟩
/-- a pass cut again and again: the heights and the wear behind the first n -/
def utN (Q : gS) (C : Nat → List Int) (a0 : Int) (a1 a2 a3 a4 a5 : Int32) (h : Nat → Int32) (w : Int32) : Nat → (Nat → Int32) × Int32
  | 0 => (h, w)
  | n + 1 => (sHr (utN Q C a0 a1 a2 a3 a4 a5 h w n).1 (pvS Q C (utN Q C a0 a1 a2 a3 a4 a5 h w n).1 (utN Q C a0 a1 a2 a3 a4 a5 h w n).2 a0 a1 a2 a3 a4 a5 0) a0 (Q 0 0).toInt, pvS Q C (utN Q C a0 a1 a2 a3 a4 a5 h w n).1 (utN Q C a0 a1 a2 a3 a4 a5 h w n).2 a0 a1 a2 a3 a4 a5 4 0)
/-- the n-th of them is quiet -/
def utQ (Q : gS) (C : Nat → List Int) (a0 : Int) (a1 a2 a3 a4 a5 : Int32) (h : Nat → Int32) (w : Int32) (n : Nat) : Prop := pvOk Q (utN Q C a0 a1 a2 a3 a4 a5 h w n).1 a0 a2.toInt a3.toInt ∧ pvV Q (pvS Q C (utN Q C a0 a1 a2 a3 a4 a5 h w n).1 (utN Q C a0 a1 a2 a3 a4 a5 h w n).2 a0 a1 a2 a3 a4 a5) = 0
def utR (P : Nat → Prop) (r : Int) : Prop := 0 ≤ r ∧ r ≤ 30 ∧ (∀ k : Nat, (k : Int) < r → P k) ∧ (r = 30 ∨ ¬ P r.toNat)
theorem utR.uniq {P : Nat → Prop} {r r2 : Int} (h : utR P r) (g : utR P r2) : r = r2 := by
  obtain ⟨h1, h2, h3, h4⟩ := h
  obtain ⟨g1, g2, g3, g4⟩ := g
  rcases (show r < r2 ∨ r = r2 ∨ r2 < r by omega) with a | a | a
  · rcases h4 with b | b
    · omega
    · exact absurd (g3 r.toNat (by omega)) b
  · exact a
  · rcases g4 with b | b
    · omega
    · exact absurd (h3 r2.toNat (by omega)) b
theorem utR.to {P P' : Nat → Prop} {r : Int} (e : ∀ n, P n ↔ P' n) (h : utR P r) : utR P' r := ⟨h.1, h.2.1, fun k hk => (e k).mp (h.2.2.1 k hk), h.2.2.2.imp id (fun q z => q ((e _).mpr z))⟩
section UT
variable {Q : gS} {C : Nat → List Int} {a0 : Int} {a1 a2 a3 a4 a5 : Int32} {h g : Nat → Int32} {w : Int32}
theorem sHr_eq {h g f : Nat → Int32} {r s : Int} (e : ∀ q : Nat, q < 96 → h q = g q) : ∀ q : Nat, q < 96 → sHr h f r s q = sHr g f r s q := fun q hq => by
  unfold sHr
  by_cases c : 16 * r ≤ (q : Int) ∧ (q : Int) < 16 * r + s
  · rw [if_pos c, if_pos c]
  · rw [if_neg c, if_neg c]
    exact e q hq
theorem utN_eq (e : ∀ q : Nat, q < 96 → h q = g q) (h0 : 0 ≤ a0) (h1 : a0 ≤ 5) (hn : (Q 0 1).toInt ≤ 6) (hs : (Q 0 0).toInt ≤ 16) : ∀ n : Nat, (∀ q : Nat, q < 96 → (utN Q C a0 a1 a2 a3 a4 a5 h w n).1 q = (utN Q C a0 a1 a2 a3 a4 a5 g w n).1 q) ∧ (utN Q C a0 a1 a2 a3 a4 a5 h w n).2 = (utN Q C a0 a1 a2 a3 a4 a5 g w n).2
  | 0 => ⟨e, rfl⟩
  | n + 1 => by
    obtain ⟨i1, i2⟩ := utN_eq e h0 h1 hn hs n
    have es : pvS Q C (utN Q C a0 a1 a2 a3 a4 a5 h w n).1 (utN Q C a0 a1 a2 a3 a4 a5 h w n).2 a0 a1 a2 a3 a4 a5 = pvS Q C (utN Q C a0 a1 a2 a3 a4 a5 g w n).1 (utN Q C a0 a1 a2 a3 a4 a5 g w n).2 a0 a1 a2 a3 a4 a5 := by rw [pvS_eq i1 h0 h1 hn hs, i2]
    refine ⟨fun q hq => ?_, ?_⟩
    · show sHr (utN Q C a0 a1 a2 a3 a4 a5 h w n).1 (pvS Q C (utN Q C a0 a1 a2 a3 a4 a5 h w n).1 (utN Q C a0 a1 a2 a3 a4 a5 h w n).2 a0 a1 a2 a3 a4 a5 0) a0 (Q 0 0).toInt q = sHr (utN Q C a0 a1 a2 a3 a4 a5 g w n).1 (pvS Q C (utN Q C a0 a1 a2 a3 a4 a5 g w n).1 (utN Q C a0 a1 a2 a3 a4 a5 g w n).2 a0 a1 a2 a3 a4 a5 0) a0 (Q 0 0).toInt q
      rw [es]
      exact sHr_eq i1 q hq
    · show pvS Q C (utN Q C a0 a1 a2 a3 a4 a5 h w n).1 (utN Q C a0 a1 a2 a3 a4 a5 h w n).2 a0 a1 a2 a3 a4 a5 4 0 = pvS Q C (utN Q C a0 a1 a2 a3 a4 a5 g w n).1 (utN Q C a0 a1 a2 a3 a4 a5 g w n).2 a0 a1 a2 a3 a4 a5 4 0
      rw [es]
theorem utQ_eq (e : ∀ q : Nat, q < 96 → h q = g q) (h0 : 0 ≤ a0) (h1 : a0 ≤ 5) (hn : (Q 0 1).toInt ≤ 6) (hs : (Q 0 0).toInt ≤ 16) (n : Nat) : utQ Q C a0 a1 a2 a3 a4 a5 h w n ↔ utQ Q C a0 a1 a2 a3 a4 a5 g w n := by
  obtain ⟨i1, i2⟩ := utN_eq (C := C) (a1 := a1) (a2 := a2) (a3 := a3) (a4 := a4) (a5 := a5) (w := w) e h0 h1 hn hs n
  unfold utQ
  rw [pvOk_eq i1 h0 h1 hs, pvS_eq i1 h0 h1 hn hs, i2]
/-- a row beside the first n of them -/
theorem ut_go {x x' f : Nat → Int32} {S : gS} {n : Nat} {y : Int} (i1 : ∀ q : Nat, q < 96 → x q = (utN Q C a0 a1 a2 a3 a4 a5 h w n).1 q) (es : S = pvS Q C (utN Q C a0 a1 a2 a3 a4 a5 h w n).1 (utN Q C a0 a1 a2 a3 a4 a5 h w n).2 a0 a1 a2 a3 a4 a5) (hf : ∀ i : Nat, (i : Int) < (Q 0 0).toInt → S 0 i = f i) (hx : ∀ q : Nat, x' q = sHr x f a0 (Q 0 0).toInt q) (hy : y = (n : Int) + 1) : ∀ q : Nat, q < 96 → x' q = (utN Q C a0 a1 a2 a3 a4 a5 h w y.toNat).1 q := fun q hq => by
  rw [hy, show ((n : Int) + 1).toNat = n + 1 by omega, hx q]
  show _ = sHr (utN Q C a0 a1 a2 a3 a4 a5 h w n).1 (pvS Q C (utN Q C a0 a1 a2 a3 a4 a5 h w n).1 (utN Q C a0 a1 a2 a3 a4 a5 h w n).2 a0 a1 a2 a3 a4 a5 0) a0 (Q 0 0).toInt q
  rw [← es]
  unfold sHr
  by_cases c : 16 * a0 ≤ (q : Int) ∧ (q : Int) < 16 * a0 + (Q 0 0).toInt
  · rw [if_pos c, if_pos c]
    exact (hf _ (by omega)).symm
  · rw [if_neg c, if_neg c]
    exact i1 q hq
end UT
