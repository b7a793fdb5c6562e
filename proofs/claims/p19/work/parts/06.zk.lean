/-! is a pass sure -/
def pvAs (Q : gS) (a0 : Int) (a1 a2 a3 : Int32) : Prop := 0 ≤ a0 ∧ a0 < (Q 0 1).toInt ∧ 1 ≤ a1.toInt ∧ a1.toInt ≤ 9 ∧ 1 ≤ a2.toInt ∧ a2.toInt ≤ 20 ∧ 1 ≤ a3.toInt ∧ a3.toInt ≤ 12
def suF (Q : gS) (B : Int → Int → Int) (r : Int) : Prop := (r = 1 ∧ ∀ st da : Int, pvIn Q st da → B st da = 0) ∨ (r = 0 ∧ ∀ st da : Int, pvIn Q st da → B st da ≠ 0) ∨ (r = 2 ∧ (∃ st da : Int, pvIn Q st da ∧ B st da = 0) ∧ ∃ st da : Int, pvIn Q st da ∧ B st da ≠ 0)
section SU
variable {Q : gS} {B B' : Int → Int → Int} {r r2 x1 x2 s d : Int}
theorem suF.uniq (hn : ∃ st da : Int, pvIn Q st da) (h : suF Q B r) (g : suF Q B r2) : r = r2 := by
  obtain ⟨st, da, hi⟩ := hn
  rcases h with ⟨a1, a2⟩ | ⟨a1, a2⟩ | ⟨a1, ⟨s1, d1, i1, e1⟩, s2, d2, i2, e2⟩ <;> rcases g with ⟨b1, b2⟩ | ⟨b1, b2⟩ | ⟨b1, ⟨s3, d3, i3, e3⟩, s4, d4, i4, e4⟩
  · omega
  · exact absurd (a2 st da hi) (b2 st da hi)
  · exact absurd (a2 s4 d4 i4) e4
  · exact absurd (b2 st da hi) (a2 st da hi)
  · omega
  · exact absurd e3 (a2 s3 d3 i3)
  · exact absurd (b2 s2 d2 i2) e2
  · exact absurd e1 (b2 s1 d1 i1)
  · omega
theorem suF.to (e : ∀ st da : Int, B st da = B' st da) (h : suF Q B r) : suF Q B' r := by
  have e2 : B = B' := funext fun x => funext fun y => e x y
  rw [← e2]
  exact h
/-- the stiffness and damping that were tried so far: was any quiet, was any not -/
def suI (Q : gS) (B : Int → Int → Int) (x1 x2 s d : Int) : Prop := (x1 = 1 → ∃ st da : Int, pvIn Q st da ∧ B st da = 0) ∧ (x2 = 1 → ∃ st da : Int, pvIn Q st da ∧ B st da ≠ 0) ∧ ∀ st da : Int, pvIn Q st da → (st < s ∨ (st = s ∧ da < d)) → (B st da = 0 → x1 = 1) ∧ (B st da ≠ 0 → x2 = 1)
theorem suI.zero (e1 : x1 = 0) (e2 : x2 = 0) (hs : s ≤ (Q 0 3).toInt) (hd : d ≤ (Q 0 5).toInt) : suI Q B x1 x2 s d := ⟨fun h => by omega, fun h => by omega, fun st da hi hv => by
  have h1 := hi.1
  have h2 := hi.2.2.1
  omega⟩
theorem suI.row {s' d' : Int} (h : suI Q B x1 x2 s d) (hd : (Q 0 6).toInt < d) (hs : s' = s + 1) (hd' : d' = (Q 0 5).toInt) : suI Q B x1 x2 s' d' := ⟨h.1, h.2.1, fun st da hi hv => h.2.2 st da hi (by
  have a := hi.2.2.1
  have b := hi.2.2.2
  omega)⟩
theorem suI.step {y1 y2 d' : Int} (h : suI Q B x1 x2 s d) (hin : pvIn Q s d) (h0 : B s d = 0 → y1 = 1 ∧ y2 = x2) (h1 : B s d ≠ 0 → y1 = x1 ∧ y2 = 1) (hd : d' = d + 1) : suI Q B y1 y2 s d' := by
  obtain ⟨i1, i2, i3⟩ := h
  by_cases e : B s d = 0
  · obtain ⟨e1, e2⟩ := h0 e
    refine ⟨fun _ => ⟨s, d, hin, e⟩, fun q => i2 (by omega), fun st da hi hv => ?_⟩
    by_cases c : st = s ∧ da = d
    · rw [c.1, c.2]
      exact ⟨fun _ => e1, fun q => absurd e q⟩
    · have j := i3 st da hi (by omega)
      exact ⟨fun _ => e1, fun q => by have j2 := j.2 q; omega⟩
  · obtain ⟨e1, e2⟩ := h1 e
    refine ⟨fun q => i1 (by omega), fun _ => ⟨s, d, hin, e⟩, fun st da hi hv => ?_⟩
    by_cases c : st = s ∧ da = d
    · rw [c.1, c.2]
      exact ⟨fun q => absurd q e, fun _ => e2⟩
    · have j := i3 st da hi (by omega)
      exact ⟨fun q => by have j2 := j.1 q; omega, fun _ => e2⟩
theorem suI.fin (h : suI Q B x1 x2 s d) (hs : (Q 0 4).toInt < s) (h1 : 0 ≤ x1 ∧ x1 ≤ 1) (h2 : 0 ≤ x2 ∧ x2 ≤ 1) (hb : x1 + x2 ≤ 1) (hr : r = x1) : suF Q B r := by
  have v : ∀ st da : Int, pvIn Q st da → (st < s ∨ (st = s ∧ da < d)) := fun st da hi => Or.inl (by have h3 := hi.2.1; omega)
  by_cases e : x1 = 1
  · refine Or.inl ⟨by omega, fun st da hi => ?_⟩
    by_cases c : B st da = 0
    · exact c
    · have h4 := (h.2.2 st da hi (v st da hi)).2 c
      omega
  · exact Or.inr (Or.inl ⟨by omega, fun st da hi c => e ((h.2.2 st da hi (v st da hi)).1 c)⟩)
theorem suI.two (h : suI Q B x1 x2 s d) (h1 : x1 = 1) (h2 : x2 = 1) (hr : r = 2) : suF Q B r := Or.inr (Or.inr ⟨hr, h.1 h1, h.2.1 h2⟩)
/-- the same, counted: how many were quiet, of how many -/
def suC (Q : gS) (B : Int → Int → Int) (x1 x2 s d : Int) : Prop := 0 ≤ x1 ∧ x1 ≤ x2 ∧ (0 < x1 → ∃ st da : Int, pvIn Q st da ∧ B st da = 0) ∧ (x1 < x2 → ∃ st da : Int, pvIn Q st da ∧ B st da ≠ 0) ∧ ∀ st da : Int, pvIn Q st da → (st < s ∨ (st = s ∧ da < d)) → (B st da = 0 → 0 < x1) ∧ (B st da ≠ 0 → x1 < x2)
theorem suC.zero (e1 : x1 = 0) (e2 : x2 = 0) (hs : s ≤ (Q 0 3).toInt) (hd : d ≤ (Q 0 5).toInt) : suC Q B x1 x2 s d := ⟨by omega, by omega, fun h => by omega, fun h => by omega, fun st da hi hv => by
  have h1 := hi.1
  have h2 := hi.2.2.1
  omega⟩
theorem suC.row {s' d' : Int} (h : suC Q B x1 x2 s d) (hd : (Q 0 6).toInt < d) (hs : s' = s + 1) (hd' : d' = (Q 0 5).toInt) : suC Q B x1 x2 s' d' := ⟨h.1, h.2.1, h.2.2.1, h.2.2.2.1, fun st da hi hv => h.2.2.2.2 st da hi (by
  have a := hi.2.2.1
  have b := hi.2.2.2
  omega)⟩
theorem suC.step {y1 y2 d' : Int} (h : suC Q B x1 x2 s d) (hin : pvIn Q s d) (h0 : B s d = 0 → y1 = x1 + 1) (h1 : B s d ≠ 0 → y1 = x1) (h2 : y2 = x2 + 1) (hd : d' = d + 1) : suC Q B y1 y2 s d' := by
  obtain ⟨j1, j2, i1, i2, i3⟩ := h
  by_cases e : B s d = 0
  · have e1 := h0 e
    refine ⟨by omega, by omega, fun _ => ⟨s, d, hin, e⟩, fun q => i2 (by omega), fun st da hi hv => ?_⟩
    by_cases c : st = s ∧ da = d
    · rw [c.1, c.2]
      exact ⟨fun _ => by omega, fun q => absurd e q⟩
    · have j := i3 st da hi (by omega)
      exact ⟨fun _ => by omega, fun q => by have j2 := j.2 q; omega⟩
  · have e1 := h1 e
    refine ⟨by omega, by omega, fun q => i1 (by omega), fun _ => ⟨s, d, hin, e⟩, fun st da hi hv => ?_⟩
    by_cases c : st = s ∧ da = d
    · rw [c.1, c.2]
      exact ⟨fun q => absurd q e, fun _ => by omega⟩
    · have j := i3 st da hi (by omega)
      exact ⟨fun q => by have j2 := j.1 q; omega, fun _ => by omega⟩
theorem suC.fin (h : suC Q B x1 x2 s d) (hs : (Q 0 4).toInt < s) (hr : (x1 = x2 ∧ r = 1) ∨ (x1 ≠ x2 ∧ x1 = 0 ∧ r = 0) ∨ (x1 ≠ x2 ∧ x1 ≠ 0 ∧ r = 2)) : suF Q B r := by
  obtain ⟨j1, j2, i1, i2, i3⟩ := h
  have v : ∀ st da : Int, pvIn Q st da → (st < s ∨ (st = s ∧ da < d)) := fun st da hi => Or.inl (by have h3 := hi.2.1; omega)
  rcases hr with ⟨a1, a2⟩ | ⟨a1, a2, a3⟩ | ⟨a1, a2, a3⟩
  · refine Or.inl ⟨a2, fun st da hi => ?_⟩
    by_cases c : B st da = 0
    · exact c
    · have h4 := (i3 st da hi (v st da hi)).2 c
      omega
  · exact Or.inr (Or.inl ⟨a3, fun st da hi c => by have h4 := (i3 st da hi (v st da hi)).1 c; omega⟩)
  · exact Or.inr (Or.inr ⟨a3, i1 (by omega), i2 (by omega)⟩)
end SU
def suR (Q : gS) (C : Nat → List Int) (h : Nat → Int32) (w : Int32) (a0 : Int) (a1 a2 a3 : Int32) (r : Int) : Prop := (¬ pvOk Q h a0 a2.toInt a3.toInt ∧ r = -4) ∨ (pvOk Q h a0 a2.toInt a3.toInt ∧ suF Q (pvB Q C h w a0 a1 a2 a3) r)
theorem suR.uniq {Q : gS} {C : Nat → List Int} {h : Nat → Int32} {w : Int32} {a0 r r2 : Int} {a1 a2 a3 : Int32} (hn : ∃ st da : Int, pvIn Q st da) (x : suR Q C h w a0 a1 a2 a3 r) (y : suR Q C h w a0 a1 a2 a3 r2) : r = r2 := by
  rcases x with ⟨x1, x2⟩ | ⟨x1, x2⟩ <;> rcases y with ⟨y1, y2⟩ | ⟨y1, y2⟩
  · omega
  · exact absurd y1 x1
  · exact absurd x1 y1
  · exact suF.uniq hn x2 y2
theorem suR.eq {Q : gS} {C : Nat → List Int} {h g : Nat → Int32} {w : Int32} {a0 r : Int} {a1 a2 a3 : Int32} (e : ∀ q : Nat, q < 96 → h q = g q) (h0 : 0 ≤ a0) (h1 : a0 ≤ 5) (hn : (Q 0 1).toInt ≤ 6) (hs : (Q 0 0).toInt ≤ 16) (x : suR Q C h w a0 a1 a2 a3 r) : suR Q C g w a0 a1 a2 a3 r := by
  unfold suR at *
  rw [pvOk_eq e h0 h1 hs] at x
  rcases x with ⟨x1, x2⟩ | ⟨x1, x2⟩
  · exact Or.inl ⟨x1, x2⟩
  · exact Or.inr ⟨x1, suF.to (fun st da => pvB_eq e h0 h1 hn hs) x2⟩
