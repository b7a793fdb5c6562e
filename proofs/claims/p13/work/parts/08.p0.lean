/-! the reference's parser: segments of marks -/
theorem rpf_ext {kd vl kd' vl' : Nat → Int32} {b d : Nat} : ∀ {m : Nat}, (∀ i : Nat, b ≤ i → i < b + m → kd' i = kd i ∧ vl' i = vl i) → rpf kd' vl' b d m = rpf kd vl b d m
  | 0, _ => rfl
  | m + 1, h => by
    have h1 := rpf_ext (m := m) (d := d) (fun i a1 a2 => h i a1 (by omega))
    have h2 := h (b + m) (by omega) (by omega)
    show (match rpf kd' vl' b d m with | none => none | some d => _) = (match rpf kd vl b d m with | none => none | some d => _)
    rw [h1, h2.1, h2.2]
theorem rpf_app {kd vl : Nat → Int32} {b d e m : Nat} (h : rpf kd vl b d m = some e) : ∀ n : Nat, rpf kd vl b d (m + n) = rpf kd vl (b + m) e n
  | 0 => h
  | n + 1 => by
    have h1 := rpf_app h n
    show (match rpf kd vl b d (m + n) with | none => none | some d => _) = (match rpf kd vl (b + m) e n with | none => none | some d => _)
    rw [h1, show b + m.add n = b + m + n from (Nat.add_assoc b m n).symm]
theorem rpf_1 {kd vl : Nat → Int32} {b d : Nat} : rpf kd vl b d 1 = if (kd b).toInt ≠ 2 then some (d + 1) else if (vl b).toInt = 33 then (if 1 ≤ d then some d else none) else (if 2 ≤ d then some (d - 1) else none) := rfl
/-- one mark more -/
def yMk (k v : Int32) (w : Int) (G G' : gS) : Prop :=
  (G' 12 w.toNat).toInt = (G 12 w.toNat).toInt + 1 ∧ (∀ q : Nat, q ≠ w.toNat → G' 12 q = G 12 q) ∧ (∀ i : Nat, i ≠ (80 * w + (G 12 w.toNat).toInt).toNat → G' 10 i = G 10 i ∧ G' 11 i = G 11 i) ∧ G' 10 (80 * w + (G 12 w.toNat).toInt).toNat = k ∧ G' 11 (80 * w + (G 12 w.toNat).toInt).toNat = v ∧ G' 0 21 = G 0 21
theorem yMk_of {G : gS} {k v x : Int32} {w i1 i2 : Int} (h1 : i1 = 80 * w + (G 12 w.toNat).toInt) (h2 : i2 = 80 * w + (G 12 w.toNat).toInt) (hx : x.toInt = (G 12 w.toNat).toInt + 1) : yMk k v w G (gu_up (gu_up (gu_up G 10 i1.toNat k) 11 i2.toNat v) 12 w.toNat x) := by
  subst h1
  subst h2
  refine ⟨?_, ?_, ?_, ?_, ?_, rfl⟩
  · show (upd (G 12) w.toNat x w.toNat).toInt = _
    rw [show upd (G 12) w.toNat x w.toNat = x from if_pos rfl]; exact hx
  · intro q hq
    show upd (G 12) w.toNat x q = _
    exact if_neg hq
  · intro i hi
    exact ⟨show upd (G 10) _ k i = _ from if_neg hi, show upd (G 11) _ v i = _ from if_neg hi⟩
  · exact show upd (G 10) _ k _ = _ from if_pos rfl
  · exact show upd (G 11) _ v _ = _ from if_pos rfl
/-- marks that push one -/
def ySg (c w : Int) (G G' : gS) : Prop :=
  (G 12 w.toNat).toInt + 1 ≤ (G' 12 w.toNat).toInt ∧ (G' 12 w.toNat).toInt + 1 ≤ (G 12 w.toNat).toInt + c * ((G' 0 21).toInt - (G 0 21).toInt) ∧ (∀ q : Nat, q ≠ w.toNat → G' 12 q = G 12 q) ∧ (∀ i : Nat, ((i : Int) < 80 * w + (G 12 w.toNat).toInt ∨ 80 * w + 80 ≤ (i : Int)) → G' 10 i = G 10 i ∧ G' 11 i = G 11 i) ∧ (∀ d : Nat, rpf (G' 10) (G' 11) (80 * w + (G 12 w.toNat).toInt).toNat d ((G' 12 w.toNat).toInt - (G 12 w.toNat).toInt).toNat = some (d + 1))
theorem y_un {G1 G2 : gS} {L : List Nat} (hU : gu_un ycd L G1 G2) (hL : (L.contains 1000 || L.contains 1100 || L.contains 1200) = false) : G2 10 = G1 10 ∧ G2 11 = G1 11 ∧ G2 12 = G1 12 := by
  have hm : ∀ n : Nat, L.contains n = false → n ∉ L := by
    intro n h1 h2
    rw [List.contains_iff_mem.mpr h2] at h1
    cases h1
  simp only [Bool.or_eq_false_iff] at hL
  exact ⟨funext fun k => hU 10 k (hm 1000 hL.1.1), funext fun k => hU 11 k (hm 1100 hL.1.2), funext fun k => hU 12 k (hm 1200 hL.2)⟩
theorem y_un21 {G1 G2 : gS} {L : List Nat} (hU : gu_un ycd L G1 G2) (hL : L.contains 22 = false) : G2 0 21 = G1 0 21 := hU 0 21 (fun h2 => by
  rw [show ycd 0 21 = 22 from rfl] at h2
  rw [List.contains_iff_mem.mpr h2] at hL
  cases hL)
theorem ySg.un {c w : Int} {G G1 G2 : gS} {L : List Nat} (h : ySg c w G G1) (hU : gu_un ycd L G1 G2) (hL : (L.contains 1000 || L.contains 1100 || L.contains 1200) = false) (hL2 : L.contains 22 = false) : ySg c w G G2 := by
  obtain ⟨e1, e2, e3⟩ := y_un hU hL
  have e4 := y_un21 hU hL2
  unfold ySg at *
  rw [e1, e2, e3, e4]
  exact h
theorem ySg.un0 {c w : Int} {G G1 G2 : gS} {L : List Nat} (h : ySg c w G1 G2) (hU : gu_un ycd L G G1) (hL : (L.contains 1000 || L.contains 1100 || L.contains 1200) = false) (hL2 : L.contains 22 = false) : ySg c w G G2 := by
  obtain ⟨e1, e2, e3⟩ := y_un hU hL
  have e4 := y_un21 hU hL2
  unfold ySg at *
  rw [e1, e2, e3, e4] at h
  exact h
theorem yMk.leaf {c w : Int} {k v : Int32} {G G1 G2 : gS} (h : yMk k v w G1 G2) (hk : k.toInt ≠ 2) (hc : 2 ≤ c) (hw : 0 ≤ w) (e1 : G1 10 = G 10) (e2 : G1 11 = G 11) (e3 : G1 12 = G 12) (h0 : 0 ≤ (G 12 w.toNat).toInt) (h79 : (G 12 w.toNat).toInt ≤ 79) (hp : (G1 0 21).toInt = (G 0 21).toInt + 1) : ySg c w G G2 := by
  obtain ⟨a1, a2, a3, a4, a5, a6⟩ := h
  rw [e3] at a1 a2 a3 a4 a5
  rw [e1, e2] at a3
  refine ⟨by omega, ?_, a2, fun i hi => a3 i (by omega), fun d => ?_⟩
  · rw [a6, hp, show (G 0 21).toInt + 1 - (G 0 21).toInt = 1 by omega, Int.mul_one]
    omega
  · rw [show ((G2 12 w.toNat).toInt - (G 12 w.toNat).toInt).toNat = 1 by omega, rpf_1, a4, if_pos hk]
theorem yc_pos {c d : Int} (hc : 1 ≤ c) (h : 2 ≤ c * d) : 1 ≤ d := by
  rcases Int.lt_or_le 0 d with h1 | h1
  · omega
  · have h2 : c * d ≤ c * 0 := Int.mul_le_mul_of_nonneg_left h1 (by omega)
    rw [Int.mul_zero] at h2
    omega
theorem ySg.parts {c w : Int} {G G1 : gS} (h : ySg c w G G1) (hc : 1 ≤ c) : (G 0 21).toInt + 1 ≤ (G1 0 21).toInt := by
  have h1 := yc_pos hc (show 2 ≤ c * ((G1 0 21).toInt - (G 0 21).toInt) by have := h.1; have := h.2.1; omega)
  omega
theorem ySg.up {c c' w : Int} {G G1 : gS} (h : ySg c w G G1) (hc : 1 ≤ c) (e : c' = c + 1) : ySg c' w G G1 := by
  have h1 := h.parts hc
  obtain ⟨a1, a2, a3, a4, a5⟩ := h
  refine ⟨a1, ?_, a3, a4, a5⟩
  subst e
  rw [Int.add_mul, Int.one_mul]
  omega
theorem ySg.m6 {c w : Int} {G G1 : gS} (h : ySg c w G G1) (hc : 1 ≤ c) (h6 : c ≤ 6) (hm : (G 12 w.toNat).toInt ≤ 6 * (G 0 21).toInt) : (G1 12 w.toNat).toInt ≤ 6 * (G1 0 21).toInt := by
  have h1 := h.parts hc
  have h2 := h.2.1
  have h3 : c * ((G1 0 21).toInt - (G 0 21).toInt) ≤ 6 * ((G1 0 21).toInt - (G 0 21).toInt) := Int.mul_le_mul_of_nonneg_right h6 (by omega)
  omega
theorem y_m6 {w : Int} {G G1 : gS} {L : List Nat} (hm : (G 12 w.toNat).toInt ≤ 6 * (G 0 21).toInt) (hU : gu_un ycd L G G1) (hL : (L.contains 1000 || L.contains 1100 || L.contains 1200) = false) (hL2 : L.contains 22 = false) : (G1 12 w.toNat).toInt ≤ 6 * (G1 0 21).toInt := by
  rw [(y_un hU hL).2.2, y_un21 hU hL2]
  exact hm
theorem ySg.join {c w : Int} {k v : Int32} {G G1 G2 G3 : gS} (h1 : ySg c w G G1) (h2 : ySg c w G1 G2) (h3 : yMk k v w G2 G3) (hk : k.toInt = 2) (hv : v.toInt ≠ 33) (hw : 0 ≤ w) (h0 : 0 ≤ (G 12 w.toNat).toInt) (hb : (G2 12 w.toNat).toInt ≤ 79) : ySg c w G G3 := by
  obtain ⟨a1, a2, a3, a4, a5⟩ := h1
  obtain ⟨b1, b2, b3, b4, b5⟩ := h2
  obtain ⟨c1, c2, c3, c4, c5, c6⟩ := h3
  refine ⟨by omega, ?_, fun q hq => ((c2 q hq).trans (b3 q hq)).trans (a3 q hq), fun i hi => ?_, fun d => ?_⟩
  · have e : c * ((G3 0 21).toInt - (G 0 21).toInt) = c * ((G2 0 21).toInt - (G1 0 21).toInt) + c * ((G1 0 21).toInt - (G 0 21).toInt) := by
      rw [c6, ← Int.mul_add]
      congr 1
      omega
    omega
  · have x1 := c3 i (by omega)
    have x2 := b4 i (by omega)
    have x3 := a4 i hi
    exact ⟨(x1.1.trans x2.1).trans x3.1, (x1.2.trans x2.2).trans x3.2⟩
  · have y1 : rpf (G3 10) (G3 11) (80 * w + (G 12 w.toNat).toInt).toNat d ((G1 12 w.toNat).toInt - (G 12 w.toNat).toInt).toNat = some (d + 1) := by
      rw [← a5 d]
      exact rpf_ext (fun i i1 i2 => by
        have x1 := c3 i (by omega)
        have x2 := b4 i (by omega)
        exact ⟨x1.1.trans x2.1, x1.2.trans x2.2⟩)
    have y2 : rpf (G3 10) (G3 11) (80 * w + (G1 12 w.toNat).toInt).toNat (d + 1) ((G2 12 w.toNat).toInt - (G1 12 w.toNat).toInt).toNat = some (d + 1 + 1) := by
      rw [← b5 (d + 1)]
      exact rpf_ext (fun i i1 i2 => c3 i (by omega))
    rw [show ((G3 12 w.toNat).toInt - (G 12 w.toNat).toInt).toNat = ((G1 12 w.toNat).toInt - (G 12 w.toNat).toInt).toNat + (((G2 12 w.toNat).toInt - (G1 12 w.toNat).toInt).toNat + 1) by omega, rpf_app y1]
    rw [show (80 * w + (G 12 w.toNat).toInt).toNat + ((G1 12 w.toNat).toInt - (G 12 w.toNat).toInt).toNat = (80 * w + (G1 12 w.toNat).toInt).toNat by omega, rpf_app y2]
    rw [show (80 * w + (G1 12 w.toNat).toInt).toNat + ((G2 12 w.toNat).toInt - (G1 12 w.toNat).toInt).toNat = (80 * w + (G2 12 w.toNat).toInt).toNat by omega, rpf_1, c4, c5, if_neg (by omega), if_neg hv, if_pos (by omega)]
    rfl
theorem ySg.neg {c c' w : Int} {k v : Int32} {G G1 G2 : gS} (h1 : ySg c w G G1) (h3 : yMk k v w G1 G2) (hk : k.toInt = 2) (hv : v.toInt = 33) (hc : 1 ≤ c) (e : c' = c + 1) (hw : 0 ≤ w) (h0 : 0 ≤ (G 12 w.toNat).toInt) (hb : (G1 12 w.toNat).toInt ≤ 79) : ySg c' w G G2 := by
  have hp := h1.parts hc
  obtain ⟨a1, a2, a3, a4, a5⟩ := h1
  obtain ⟨c1, c2, c3, c4, c5, c6⟩ := h3
  refine ⟨by omega, ?_, fun q hq => (c2 q hq).trans (a3 q hq), fun i hi => ?_, fun d => ?_⟩
  · subst e
    rw [c6, Int.add_mul, Int.one_mul]
    omega
  · have x1 := c3 i (by omega)
    have x3 := a4 i hi
    exact ⟨x1.1.trans x3.1, x1.2.trans x3.2⟩
  · have y1 : rpf (G2 10) (G2 11) (80 * w + (G 12 w.toNat).toInt).toNat d ((G1 12 w.toNat).toInt - (G 12 w.toNat).toInt).toNat = some (d + 1) := by
      rw [← a5 d]
      exact rpf_ext (fun i i1 i2 => c3 i (by omega))
    rw [show ((G2 12 w.toNat).toInt - (G 12 w.toNat).toInt).toNat = ((G1 12 w.toNat).toInt - (G 12 w.toNat).toInt).toNat + 1 by omega, rpf_app y1]
    rw [show (80 * w + (G 12 w.toNat).toInt).toNat + ((G1 12 w.toNat).toInt - (G 12 w.toNat).toInt).toNat = (80 * w + (G1 12 w.toNat).toInt).toNat by omega, rpf_1, c4, c5, if_neg (by omega), if_pos hv, if_pos (by omega)]
/-- what the three sums that stand are made of is as it was -/
def yKp (G G' : gS) : Prop := (∀ i : Nat, i < 240 → G' 10 i = G 10 i ∧ G' 11 i = G 11 i) ∧ (∀ q : Nat, q < 3 → G' 12 q = G 12 q)
theorem yKp.rf {G : gS} : yKp G G := ⟨fun _ _ => ⟨rfl, rfl⟩, fun _ _ => rfl⟩
theorem yKp.tr {G G1 G2 : gS} (h : yKp G G1) (h2 : yKp G1 G2) : yKp G G2 := ⟨fun i hi => ⟨(h2.1 i hi).1.trans (h.1 i hi).1, (h2.1 i hi).2.trans (h.1 i hi).2⟩, fun q hq => (h2.2 q hq).trans (h.2 q hq)⟩
theorem yKp.of {G1 G2 : gS} (h : G2 10 = G1 10 ∧ G2 11 = G1 11 ∧ G2 12 = G1 12) : yKp G1 G2 := ⟨fun i _ => ⟨congrFun h.1 i, congrFun h.2.1 i⟩, fun q _ => congrFun h.2.2 q⟩
theorem yKp.un {G G1 G2 : gS} {L : List Nat} (h : yKp G G1) (hU : gu_un ycd L G1 G2) (hL : (L.contains 1000 || L.contains 1100 || L.contains 1200) = false) : yKp G G2 := h.tr (yKp.of (y_un hU hL))
theorem yMk.kp {w : Int} {k v : Int32} {G1 G2 : gS} (h : yMk k v w G1 G2) (hw : 3 ≤ w) (h0 : 0 ≤ (G1 12 w.toNat).toInt) : yKp G1 G2 := ⟨fun i hi => h.2.2.1 i (by omega), fun q hq => h.2.1 q (by omega)⟩
theorem yKp.w3 {G G1 : gS} (h : yKp G G1) (hW : yW3 G) (hI : yI G) : yW3 G1 := by
  intro w h0 h2
  have h9 := hW w h0 h2
  have hb : (0 : Int) ≤ (G 12 w.toNat).toInt ∧ (G 12 w.toNat).toInt ≤ 80 := hI 12 _
  unfold yWf rpk at *
  rw [h.2 w.toNat (by omega), rpf_ext (kd := G 10) (vl := G 11) (fun i i1 i2 => h.1 i (by omega))]
  exact h9
/-- the marks of the three sums that are read can be done -/
def yV3 (G : gS) : Prop := ∀ w : Int, 3 ≤ w → w ≤ 5 → yWf (G 10) (G 11) (G 12) w
theorem yV3.un {G G1 : gS} {L : List Nat} (h : yV3 G) (hU : gu_un ycd L G G1) (hL : (L.contains 1000 || L.contains 1100 || L.contains 1200) = false) : yV3 G1 := by
  obtain ⟨e1, e2, e3⟩ := y_un hU hL
  intro w h0 h2
  rw [e1, e2, e3]
  exact h w h0 h2
theorem yMk.wf {w : Int} {k v : Int32} {G1 G2 : gS} (h : yMk k v w G1 G2) (hk : k.toInt ≠ 2) (hw : 0 ≤ w) (h0 : (G1 12 w.toNat).toInt = 0) : yWf (G2 10) (G2 11) (G2 12) w := by
  obtain ⟨c1, c2, c3, c4, c5, c6⟩ := h
  unfold yWf rpk
  rw [show (80 * w + (G2 12 w.toNat).toInt - 80 * w).toNat = 1 by omega, rpf_1, show (80 * w).toNat = (80 * w + (G1 12 w.toNat).toInt).toNat by omega, c4, if_pos hk]
  exact fun h => by cases h
theorem yWf.mk {w w2 : Int} {k v : Int32} {G1 G2 : gS} (h2 : yWf (G1 10) (G1 11) (G1 12) w2) (h : yMk k v w G1 G2) (hw : 0 ≤ w) (hw2 : 0 ≤ w2) (hn : w2 ≠ w) (h0 : 0 ≤ (G1 12 w.toNat).toInt) (h79 : (G1 12 w.toNat).toInt ≤ 79) (hb : (G1 12 w2.toNat).toInt ≤ 80) : yWf (G2 10) (G2 11) (G2 12) w2 := by
  obtain ⟨c1, c2, c3, c4, c5, c6⟩ := h
  unfold yWf rpk at *
  rw [c2 w2.toNat (by omega), rpf_ext (kd := G1 10) (vl := G1 11) (fun i i1 i2 => c3 i (by omega))]
  exact h2
theorem yWf.eq {w : Int} {G1 G2 : gS} (h : yWf (G1 10) (G1 11) (G1 12) w) (e : G2 10 = G1 10 ∧ G2 11 = G1 11 ∧ G2 12 = G1 12) : yWf (G2 10) (G2 11) (G2 12) w := by
  rw [e.1, e.2.1, e.2.2]; exact h
theorem yV3.sum {c w : Int} {G G1 G2 : gS} (h : yV3 G) (hI : yI G) (h0 : 3 ≤ w) (h5 : w ≤ 5) (e1 : G1 10 = G 10) (e2 : G1 11 = G 11) (e3 : ∀ q : Nat, q ≠ w.toNat → G1 12 q = G 12 q) (e4 : (G1 12 w.toNat).toInt = 0) (hs : ySg c w G1 G2) : yV3 G2 := by
  obtain ⟨b1, b2, b3, b4, b5⟩ := hs
  intro w2 k0 k5
  by_cases e : w2 = w
  · subst e
    unfold yWf rpk
    have h9 := b5 0
    rw [e4, Int.add_zero, Int.sub_zero] at h9
    rw [show (80 * w2 + (G2 12 w2.toNat).toInt - 80 * w2).toNat = (G2 12 w2.toNat).toInt.toNat by omega, h9]
    exact fun h => by cases h
  · have h9 := h w2 k0 k5
    have hb : (0 : Int) ≤ (G 12 w2.toNat).toInt ∧ (G 12 w2.toNat).toInt ≤ 80 := hI 12 _
    unfold yWf rpk at *
    rw [b3 w2.toNat (by omega), e3 w2.toNat (by omega), rpf_ext (kd := G 10) (vl := G 11) (fun i i1 i2 => by
      have x := b4 i (by omega)
      rw [e1, e2] at x
      exact x)]
    exact h9
theorem ySg.kp {c w : Int} {G1 G2 : gS} (h : ySg c w G1 G2) (hw : 3 ≤ w) (h0 : 0 ≤ (G1 12 w.toNat).toInt) : yKp G1 G2 := ⟨fun i hi => h.2.2.2.1 i (by omega), fun q hq => h.2.2.1 q (by omega)⟩
/-- takeShop: the sums below w are taken -/
def yTk (w : Int) (G : gS) : Prop := (∀ v : Int, 0 ≤ v → v < w → yWf (G 10) (G 11) (G 12) v) ∧ yV3 G
def yTi (w k : Int) (G : gS) : Prop := yTk w G ∧ G 12 w.toNat = G 12 (3 + w).toNat ∧ ∀ i : Int, 0 ≤ i → i < k → G 10 (80 * w + i).toNat = G 10 (80 * (3 + w) + i).toNat ∧ G 11 (80 * w + i).toNat = G 11 (80 * (3 + w) + i).toNat
theorem yTk.at0 {G : gS} (h : yV3 G) : yTk 0 G := ⟨fun v h1 h2 => by omega, h⟩
theorem yTk.un {w : Int} {G G1 : gS} {L : List Nat} (h : yTk w G) (hU : gu_un ycd L G G1) (hL : (L.contains 1000 || L.contains 1100 || L.contains 1200) = false) : yTk w G1 := ⟨fun v h1 h2 => (h.1 v h1 h2).eq (y_un hU hL), h.2.un hU hL⟩
theorem yTi.at0 {w : Int} {G : gS} {x : Int32} (h : yTk w G) (h0 : 0 ≤ w) (h2 : w ≤ 2) (hx : x = G 12 (3 + w).toNat) : yTi w 0 (gu_up G 12 w.toNat x) := by
  have e10 : (gu_up G 12 w.toNat x) 10 = G 10 := rfl
  have e11 : (gu_up G 12 w.toNat x) 11 = G 11 := rfl
  have e12 : (gu_up G 12 w.toNat x) 12 = upd (G 12) w.toNat x := rfl
  have en : ∀ q : Nat, q ≠ w.toNat → upd (G 12) w.toNat x q = G 12 q := fun q hq => if_neg hq
  refine ⟨⟨fun v h1 h3 => ?_, fun v h1 h3 => ?_⟩, ?_, fun i h1 h3 => by omega⟩
  · rw [e10, e11, e12]
    have h9 := h.1 v h1 h3
    unfold yWf at *
    rw [en v.toNat (by omega)]
    exact h9
  · rw [e10, e11, e12]
    have h9 := h.2 v h1 h3
    unfold yWf at *
    rw [en v.toNat (by omega)]
    exact h9
  · rw [e12, en (3 + w).toNat (by omega), show upd (G 12) w.toNat x w.toNat = x from if_pos rfl, hx]
theorem yTi.step {w k i1 i2 : Int} {G : gS} {x1 x2 : Int32} (h : yTi w k G) (hI : yI G) (h0 : 0 ≤ w) (h2 : w ≤ 2) (k0 : 0 ≤ k) (k8 : k < 80) (e1 : i1 = 80 * w + k) (e2 : i2 = 80 * w + k) (hx1 : x1 = G 10 (80 * (3 + w) + k).toNat) (hx2 : x2 = G 11 (80 * (3 + w) + k).toNat) : yTi w (k + 1) (gu_up (gu_up G 10 i1.toNat x1) 11 i2.toNat x2) := by
  subst e1
  subst e2
  have e10 : (gu_up (gu_up G 10 (80 * w + k).toNat x1) 11 (80 * w + k).toNat x2) 10 = upd (G 10) (80 * w + k).toNat x1 := rfl
  have e11 : (gu_up (gu_up G 10 (80 * w + k).toNat x1) 11 (80 * w + k).toNat x2) 11 = upd (G 11) (80 * w + k).toNat x2 := rfl
  have e12 : (gu_up (gu_up G 10 (80 * w + k).toNat x1) 11 (80 * w + k).toNat x2) 12 = G 12 := rfl
  have n1 : ∀ q : Nat, q ≠ (80 * w + k).toNat → upd (G 10) (80 * w + k).toNat x1 q = G 10 q := fun q hq => if_neg hq
  have n2 : ∀ q : Nat, q ≠ (80 * w + k).toNat → upd (G 11) (80 * w + k).toNat x2 q = G 11 q := fun q hq => if_neg hq
  have far : ∀ v : Int, 0 ≤ v → v ≠ w → yWf (G 10) (G 11) (G 12) v → yWf (upd (G 10) (80 * w + k).toNat x1) (upd (G 11) (80 * w + k).toNat x2) (G 12) v := by
    intro v h1 h3 h9
    have hb : (0 : Int) ≤ (G 12 v.toNat).toInt ∧ (G 12 v.toNat).toInt ≤ 80 := hI 12 _
    unfold yWf rpk at *
    rw [rpf_ext (kd := G 10) (vl := G 11) (fun i i1 i2 => ⟨n1 i (by omega), n2 i (by omega)⟩)]
    exact h9
  refine ⟨⟨fun v h1 h3 => ?_, fun v h1 h3 => ?_⟩, ?_, fun i h1 h3 => ?_⟩
  · rw [e10, e11, e12]
    exact far v h1 (by omega) (h.1.1 v h1 h3)
  · rw [e10, e11, e12]
    exact far v (by omega) (by omega) (h.1.2 v h1 h3)
  · rw [e12]; exact h.2.1
  · rw [e10, e11, n1 (80 * (3 + w) + i).toNat (by omega), n2 (80 * (3 + w) + i).toNat (by omega)]
    by_cases e : i = k
    · subst e
      rw [show upd (G 10) (80 * w + i).toNat x1 (80 * w + i).toNat = x1 from if_pos rfl, show upd (G 11) (80 * w + i).toNat x2 (80 * w + i).toNat = x2 from if_pos rfl]
      exact ⟨hx1, hx2⟩
    · rw [n1 (80 * w + i).toNat (by omega), n2 (80 * w + i).toNat (by omega)]
      exact h.2.2 i h1 (by omega)
theorem rpf_shift {kd vl : Nat → Int32} {b b2 d : Nat} : ∀ {m : Nat}, (∀ i : Nat, i < m → kd (b + i) = kd (b2 + i) ∧ vl (b + i) = vl (b2 + i)) → rpf kd vl b d m = rpf kd vl b2 d m
  | 0, _ => rfl
  | m + 1, h => by
    have h1 := rpf_shift (m := m) (d := d) (fun i a1 => h i (by omega))
    have h2 := h m (by omega)
    show (match rpf kd vl b d m with | none => none | some d => _) = (match rpf kd vl b2 d m with | none => none | some d => _)
    rw [h1, h2.1, h2.2]
theorem yTi.fin {w k : Int} {G : gS} (h : yTi w k G) (h0 : 0 ≤ w) (h2 : w ≤ 2) (hk : (G 12 w.toNat).toInt ≤ k) : yTk (w + 1) G := by
  refine ⟨fun v h1 h3 => ?_, h.1.2⟩
  by_cases e : v = w
  · subst e
    have h9 := h.1.2 (3 + v) (by omega) (by omega)
    unfold yWf rpk at *
    rw [← h.2.1, show (80 * (3 + v) + (G 12 v.toNat).toInt - 80 * (3 + v)).toNat = (G 12 v.toNat).toInt.toNat by omega] at h9
    rw [show (80 * v + (G 12 v.toNat).toInt - 80 * v).toNat = (G 12 v.toNat).toInt.toNat by omega, rpf_shift (b2 := (80 * (3 + v)).toNat) (fun i hi => by
      have x := h.2.2 (i : Int) (by omega) (by omega)
      rw [show (80 * v + (i : Int)).toNat = (80 * v).toNat + i by omega, show (80 * (3 + v) + (i : Int)).toNat = (80 * (3 + v)).toNat + i by omega] at x
      exact x)]
    exact h9
  · exact h.1.1 v h1 (by omega)
theorem yTk.w3 {G : gS} (h : yTk 3 G) : yW3 G := fun w h0 h2 => h.1 w h0 (by omega)
theorem yV3.plain {G0 G1 G2 G3 G4 G5 : gS} {k1 v1 k2 v2 k3 v3 : Int32} (z : ∀ q : Nat, 3 ≤ q → q < 6 → (G0 12 q).toInt = 0) (h1 : yMk k1 v1 3 G0 G1) (e1 : G2 10 = G1 10 ∧ G2 11 = G1 11 ∧ G2 12 = G1 12) (h2 : yMk k2 v2 4 G2 G3) (e2 : G4 10 = G3 10 ∧ G4 11 = G3 11 ∧ G4 12 = G3 12) (h3 : yMk k3 v3 5 G4 G5) (n1 : k1.toInt ≠ 2) (n2 : k2.toInt ≠ 2) (n3 : k3.toInt ≠ 2) : yV3 G5 := by
  have z3 := z 3 (by omega) (by omega)
  have z4 : (G2 12 (4 : Int).toNat).toInt = 0 := by rw [e1.2.2, h1.2.1 (4 : Int).toNat (by decide)]; exact z 4 (by omega) (by omega)
  have z5 : (G4 12 (5 : Int).toNat).toInt = 0 := by rw [e2.2.2, h2.2.1 (5 : Int).toNat (by decide), e1.2.2, h1.2.1 (5 : Int).toNat (by decide)]; exact z 5 (by omega) (by omega)
  have a1 : (G1 12 (3 : Int).toNat).toInt = 1 := by have := h1.1; rw [show (G0 12 (3 : Int).toNat).toInt = 0 from z3] at this; omega
  have a2 : (G3 12 (4 : Int).toNat).toInt = 1 := by have := h2.1; omega
  have a13 : (G2 12 (3 : Int).toNat).toInt = 1 := by rw [e1.2.2]; exact a1
  have a33 : (G3 12 (3 : Int).toNat).toInt = 1 := by rw [h2.2.1 (3 : Int).toNat (by decide)]; exact a13
  have w3 := h1.wf n1 (by omega) z3
  have w3' := (w3.eq e1).mk h2 (by omega) (by omega) (by omega) (by omega) (by omega) (by omega)
  have w4 := h2.wf n2 (by omega) z4
  have b3 : (G4 12 (3 : Int).toNat).toInt = 1 := by rw [e2.2.2]; exact a33
  have b4 : (G4 12 (4 : Int).toNat).toInt = 1 := by rw [e2.2.2]; exact a2
  have w3'' := (w3'.eq e2).mk h3 (by omega) (by omega) (by omega) (by omega) (by omega) (by omega)
  have w4' := (w4.eq e2).mk h3 (by omega) (by omega) (by omega) (by omega) (by omega) (by omega)
  have w5 := h3.wf n3 (by omega) z5
  intro w k0 k5
  rcases (show w = 3 ∨ w = 4 ∨ w = 5 by omega) with e | e | e <;> subst e
  · exact w3''
  · exact w4'
  · exact w5
