/-! good codes: what a sum holds when it was read -/
/-- how many a row of codes leaves on the pile (the latest first); none: it can't be done -/
def gcD : List Int → Option Nat
  | [] => some 0
  | c :: cs => match gcD cs with
    | none => none
    | some d => if -2 ≤ c then some (d + 1) else if c = -3 then (if 1 ≤ d then some d else none) else (if 2 ≤ d then some (d - 1) else none)
/-- operands among codes -/
def gcN : List Int → Int
  | [] => 0
  | c :: cs => if -2 ≤ c then gcN cs + 1 else gcN cs
def gcG (c : Int) : Prop := -2 ≤ c ∨ c = -3 ∨ 1 ≤ xsg (-3 - c)
def gcOK (cs : List Int) : Prop := gcD cs = some 1 ∧ gcN cs ≤ 12 ∧ ∀ c : Int, c ∈ cs → gcG c
theorem gcD_push {c : Int} {cs : List Int} {d : Nat} (h : gcD cs = some d) (hc : -2 ≤ c) : gcD (c :: cs) = some (d + 1) := by
  unfold gcD
  rw [h]
  exact if_pos hc
theorem gcD_neg {cs : List Int} {d : Nat} (h : gcD cs = some d) (hd : 1 ≤ d) : gcD (-3 :: cs) = some d := by
  unfold gcD
  rw [h]
  show (if (-2 : Int) ≤ -3 then some (d + 1) else if (-3 : Int) = -3 then (if 1 ≤ d then some d else none) else (if 2 ≤ d then some (d - 1) else none)) = some d
  rw [if_neg (by decide), if_pos rfl, if_pos hd]
theorem gcD_join {c : Int} {cs : List Int} {d : Nat} (h : gcD cs = some (d + 2)) (hc : c < -3) : gcD (c :: cs) = some (d + 1) := by
  unfold gcD
  rw [h]
  show (if -2 ≤ c then some (d + 2 + 1) else if c = -3 then (if 1 ≤ d + 2 then some (d + 2) else none) else (if 2 ≤ d + 2 then some (d + 2 - 1) else none)) = some (d + 1)
  rw [if_neg (by omega), if_neg (by omega), if_pos (by omega)]
  rfl
theorem gcN_push {c : Int} {cs : List Int} (hc : -2 ≤ c) : gcN (c :: cs) = gcN cs + 1 := if_pos hc
theorem gcN_no {c : Int} {cs : List Int} (hc : c < -2) : gcN (c :: cs) = gcN cs := if_neg (by omega)
theorem gcA {c : Int} {cs : List Int} (h : gcG c) (g : ∀ c : Int, c ∈ cs → gcG c) : ∀ d : Int, d ∈ c :: cs → gcG d := fun d hd => by
  rcases List.mem_cons.mp hd with e | e
  · rw [e]; exact h
  · exact g d e
/-- signs that wait, parentheses that are open -/
def gcB : List Int → Nat
  | [] => 0
  | a :: w => if 1 ≤ xsg a then gcB w + 1 else gcB w
def gcP : List Int → Int
  | [] => 0
  | a :: w => if a = 40 then gcP w + 1 else gcP w
/-- no sign stands right on a minus -/
def gcW : List Int → Prop
  | [] => True
  | a :: w => gcW w ∧ (1 ≤ xsg a → ∀ b : Int, w.head? = some b → b ≠ -3)
def gcK (w : List Int) : Prop := ∀ a : Int, a ∈ w → a = 40 ∨ a = -3 ∨ 1 ≤ xsg a
def gcH (w : List Int) : Prop := ∀ b : Int, w.head? = some b → b ≠ -3
theorem gcK.tl {a : Int} {w : List Int} (h : gcK (a :: w)) : gcK w := fun b hb => h b (List.mem_cons_of_mem _ hb)
theorem gcK.hd {a : Int} {w : List Int} (h : gcK (a :: w)) : a = 40 ∨ a = -3 ∨ 1 ≤ xsg a := h a List.mem_cons_self
theorem gcK.cons {a : Int} {w : List Int} (h : gcK w) (ha : a = 40 ∨ a = -3 ∨ 1 ≤ xsg a) : gcK (a :: w) := fun b hb => by
  rcases List.mem_cons.mp hb with e | e
  · rw [e]; exact ha
  · exact h b e
theorem gcB_s {a : Int} {w : List Int} (h : 1 ≤ xsg a) : gcB (a :: w) = gcB w + 1 := if_pos h
theorem gcB_n {a : Int} {w : List Int} (h : a = 40 ∨ a = -3) : gcB (a :: w) = gcB w := if_neg (by rcases h with e | e <;> (rw [e]; decide))
theorem gcP_n {a : Int} {w : List Int} (h : a ≠ 40) : gcP (a :: w) = gcP w := if_neg h
theorem gcP_s {w : List Int} : gcP (40 :: w) = gcP w + 1 := if_pos rfl
theorem gcP_nn : ∀ {w : List Int}, 0 ≤ gcP w
  | [] => Int.le_refl _
  | a :: w => by
    have h := gcP_nn (w := w)
    by_cases e : a = 40
    · rw [e, gcP_s]; omega
    · rw [gcP_n e]; exact h
theorem xsg_b {a : Int} (h : 1 ≤ xsg a) : 37 ≤ a ∧ a ≤ 47 ∧ a ≠ 40 ∧ a ≠ 41 := by
  unfold xsg at h
  split at h
  · omega
  · split at h <;> omega
/-- what is told of a sum that is being read -/
def gcS (s : sSt) : Prop := (∀ c : Int, c ∈ s.2.2.2.2.2 → gcG c) ∧ gcN s.2.2.2.2.2 = s.2.2.2.2.1 ∧ s.2.2.2.2.1 ≤ 12 ∧ gcD s.2.2.2.2.2 = some (gcB s.2.1 + (if s.1 = 0 then 1 else 0)) ∧ gcW s.2.1 ∧ gcK s.2.1 ∧ (s.1 = 0 → gcH s.2.1) ∧ gcP s.2.1 = s.2.2.2.1
theorem gcJ {s : Int} (hs : 1 ≤ s) : ∀ {w cs : List Int}, gcW w → gcK w → gcH w → gcD cs = some (gcB w + 1) → (∀ c : Int, c ∈ cs → gcG c) → gcW (sJ s w cs).1 ∧ gcK (sJ s w cs).1 ∧ gcH (sJ s w cs).1 ∧ gcD (sJ s w cs).2 = some (gcB (sJ s w cs).1 + 1) ∧ (∀ c : Int, c ∈ (sJ s w cs).2 → gcG c) ∧ gcN (sJ s w cs).2 = gcN cs ∧ gcP (sJ s w cs).1 = gcP w ∧ (∀ b : Int, (sJ s w cs).1.head? = some b → xsg b < s)
  | [], cs, h1, h2, h3, h4, h5 => ⟨h1, h2, h3, h4, h5, rfl, rfl, fun b hb => by cases hb⟩
  | a :: w, cs, h1, h2, h3, h4, h5 => by
    by_cases e : s ≤ xsg a
    · rw [sJ_go e]
      have ha : 1 ≤ xsg a := by omega
      have hb := xsg_b ha
      rw [gcB_s ha] at h4
      obtain ⟨g1, g2, g3, g4, g5, g6, g7, g8⟩ := gcJ hs (w := w) (cs := (-3 - a) :: cs) h1.1 h2.tl (h1.2 ha) (gcD_join h4 (by omega)) (gcA (Or.inr (Or.inr (by rw [show -3 - (-3 - a) = a by omega]; exact ha))) h5)
      exact ⟨g1, g2, g3, g4, g5, by rw [g6, gcN_no (by omega)], by rw [g7, gcP_n hb.2.2.1], g8⟩
    · rw [sJ_no (by omega)]
      refine ⟨h1, h2, h3, h4, h5, rfl, rfl, fun b hb => ?_⟩
      have : a = b := Option.some.inj hb
      subst this
      omega
theorem gcM : ∀ {w cs : List Int} {o : Int} {d : Nat}, gcW w → gcK w → gcD cs = some (d + 1) → (∀ c : Int, c ∈ cs → gcG c) → gcW (sM w o cs).1 ∧ gcK (sM w o cs).1 ∧ gcH (sM w o cs).1 ∧ gcD (sM w o cs).2.2 = some (d + 1) ∧ (∀ c : Int, c ∈ (sM w o cs).2.2 → gcG c) ∧ gcN (sM w o cs).2.2 = gcN cs ∧ gcP (sM w o cs).1 = gcP w ∧ gcB (sM w o cs).1 = gcB w
  | [], cs, o, d, h1, h2, h4, h5 => ⟨h1, h2, (fun b hb => by cases hb), h4, h5, rfl, rfl, rfl⟩
  | a :: w, cs, o, d, h1, h2, h4, h5 => by
    by_cases e : a = -3
    · rw [sM_go e]
      obtain ⟨g1, g2, g3, g4, g5, g6, g7, g8⟩ := gcM (w := w) (cs := -3 :: cs) (o := o - 1) h1.1 h2.tl (gcD_neg h4 (by omega)) (gcA (Or.inr (Or.inl rfl)) h5)
      exact ⟨g1, g2, g3, g4, g5, by rw [g6, gcN_no (by decide)], by rw [g7, gcP_n (by omega)], by rw [g8, gcB_n (Or.inr e)]⟩
    · rw [sM_no e]
      refine ⟨h1, h2, fun b hb => ?_, h4, h5, rfl, rfl, rfl⟩
      have : a = b := Option.some.inj hb
      omega
theorem gcS.mk' {w cs : List Int} {o p n : Int} {wt : Int} {d : Nat} (h1 : ∀ c : Int, c ∈ cs → gcG c) (h2 : gcN cs = n) (h3 : n ≤ 12) (h4 : gcD cs = some d) (hd : d = gcB w + (if wt = 0 then 1 else 0)) (h5 : gcW w) (h6 : gcK w) (h7 : wt = 0 → gcH w) (h8 : gcP w = p) : gcS (wt, w, o, p, n, cs) := ⟨h1, h2, h3, by rw [← hd]; exact h4, h5, h6, h7, h8⟩
theorem gc_op {code wt o p n : Int} {w cs : List Int} (h : gcS (wt, w, o, p, n, cs)) (hw : wt ≠ 0) (hc : -2 ≤ code) (h0 : (sOp code w o p n cs).1 = 0) : gcS (sOp code w o p n cs).2 := by
  obtain ⟨h1, h2, h3, h4, h5, h6, h7, h8⟩ := h
  simp only at h1 h2 h3 h4 h5 h6 h7 h8
  rw [if_neg hw, Nat.add_zero] at h4
  unfold sOp at *
  by_cases e : 12 ≤ n
  · rw [if_pos e] at h0
    exact absurd h0 (by decide)
  · rw [if_neg e]
    obtain ⟨g1, g2, g3, g4, g5, g6, g7, g8⟩ := gcM (o := o) h5 h6 (gcD_push h4 hc) (gcA (Or.inl hc) h1)
    exact gcS.mk' g5 (by rw [g6, gcN_push hc, h2]) (by omega) g4 (by rw [g8, if_pos rfl]) g1 g2 (fun _ => g3) (by rw [g7, h8])
/-- a token keeps it -/
theorem gc_T {ls k v wt o p n : Int} {w cs : List Int} (h : gcS (wt, w, o, p, n, cs)) (hv : k = 2 → 0 ≤ v) (h0 : (sT ls k v wt w o p n cs).1 = 0) : gcS (sT ls k v wt w o p n cs).2 := by
  by_cases hw : wt = 0
  · obtain ⟨h1, h2, h3, h4, h5, h6, h7, h8⟩ := h
    simp only at h1 h2 h3 h4 h5 h6 h7 h8
    rw [if_pos hw] at h4
    unfold sT at *
    rw [if_pos hw] at *
    by_cases e1 : k = 3 ∧ v = 41 ∧ 0 < p
    · rw [if_pos e1] at *
      obtain ⟨g1, g2, g3, g4, g5, g6, g7, g8⟩ := gcJ (s := 1) (by decide) h5 h6 (h7 hw) h4 h1
      generalize hX : sJ 1 w cs = X at *
      obtain ⟨w1, c1⟩ := X
      simp only at g1 g2 g3 g4 g5 g6 g7 g8
      cases w1 with
      | nil =>
        have : gcP ([] : List Int) = 0 := rfl
        omega
      | cons a w2 =>
        have ha : a = 40 := by
          have a1 := g8 a rfl
          have a2 := g3 a rfl
          have a3 := gcK.hd g2
          omega
        subst ha
        rw [gcB_n (Or.inl rfl)] at g4
        rw [gcP_s] at g7
        obtain ⟨m1, m2, m3, m4, m5, m6, m7, m8⟩ := gcM (o := o - 1) g1.1 g2.tl g4 g5
        show gcS (0, (sM w2 (o - 1) c1).1, (sM w2 (o - 1) c1).2.1, p - 1, n, (sM w2 (o - 1) c1).2.2)
        exact gcS.mk' m5 (by rw [m6, g6, h2]) h3 m4 (by rw [m8, if_pos rfl]) m1 m2 (fun _ => m3) (by rw [m7]; omega)
    · rw [if_neg e1] at *
      by_cases e2 : k = 3 ∧ xsg v ≠ 0
      · rw [if_pos e2] at *
        have hx : 1 ≤ xsg v := by have := xsg_le v; omega
        obtain ⟨g1, g2, g3, g4, g5, g6, g7, g8⟩ := gcJ (s := xsg v) hx h5 h6 (h7 hw) h4 h1
        exact gcS.mk' g5 (by rw [g6, h2]) h3 g4 (by rw [gcB_s hx, if_neg (by decide)]) ⟨g1, fun _ => g3⟩ (g2.cons (Or.inr (Or.inr hx))) (fun q => absurd q (by decide)) (by rw [gcP_n (xsg_b hx).2.2.1, g7, h8])
      · rw [if_neg e2] at h0
        exact absurd h0 (by decide)
  · have h' := h
    obtain ⟨h1, h2, h3, h4, h5, h6, h7, h8⟩ := h
    simp only at h1 h2 h3 h4 h5 h6 h7 h8
    rw [if_neg hw, Nat.add_zero] at h4
    unfold sT at *
    rw [if_neg hw] at *
    by_cases e1 : k = 3 ∧ v = 40
    · rw [if_pos e1] at *
      by_cases e2 : 4 ≤ o
      · rw [if_pos e2] at h0
        exact absurd h0 (by decide)
      · rw [if_neg e2]
        exact gcS.mk' h1 h2 h3 h4 (by rw [gcB_n (Or.inl rfl), if_neg (by decide), Nat.add_zero]) ⟨h5, fun q => absurd q (by decide)⟩ (h6.cons (Or.inl rfl)) (fun q => absurd q (by decide)) (by rw [gcP_s, h8])
    · rw [if_neg e1] at *
      by_cases e2 : k = 3 ∧ v = 45
      · rw [if_pos e2] at *
        by_cases e3 : 4 ≤ o
        · rw [if_pos e3] at h0
          exact absurd h0 (by decide)
        · rw [if_neg e3]
          exact gcS.mk' h1 h2 h3 h4 (by rw [gcB_n (Or.inr rfl), if_neg (by decide), Nat.add_zero]) ⟨h5, fun q => absurd q (by decide)⟩ (h6.cons (Or.inr (Or.inl rfl))) (fun q => absurd q (by decide)) (by rw [gcP_n (by decide), h8])
      · rw [if_neg e2] at *
        by_cases e3 : k = 2
        · rw [if_pos e3] at *
          exact gc_op h' hw (by have := hv e3; omega) h0
        · rw [if_neg e3] at *
          by_cases e4 : k = 1 ∧ sLi ls v ≠ -1
          · rw [if_pos e4] at *
            exact gc_op h' hw (by have := sLi_rng (ls := ls) (v := v); omega) h0
          · rw [if_neg e4] at h0
            exact absurd h0 (by decide)
/-- at the end the codes are good -/
theorem gc_fin {s : sSt} (h : gcS s) (h1 : s.1 = 0) (h2 : s.2.2.2.1 = 0) : gcOK (sFin s).2.2.2.2.2 := by
  obtain ⟨wt, w, o, p, n, cs⟩ := s
  obtain ⟨a1, a2, a3, a4, a5, a6, a7, a8⟩ := h
  simp only at a1 a2 a3 a4 a5 a6 a7 a8 h1 h2
  rw [if_pos h1] at a4
  obtain ⟨g1, g2, g3, g4, g5, g6, g7, g8⟩ := gcJ (s := 1) (by decide) a5 a6 (a7 h1) a4 a1
  show gcOK (sJ 1 w cs).2
  generalize hX : sJ 1 w cs = X at *
  obtain ⟨w1, c1⟩ := X
  simp only at g1 g2 g3 g4 g5 g6 g7 g8
  cases w1 with
  | nil => exact ⟨g4, by show gcN c1 ≤ 12; omega, g5⟩
  | cons a w2 =>
    have ha : a = 40 := by
      have a1 := g8 a rfl
      have a2 := g3 a rfl
      have a3 := gcK.hd g2
      omega
    subst ha
    rw [gcP_s] at g7
    have := gcP_nn (w := w2)
    omega
def gcI (c : Int) (sg : Nat → sSt) : Prop := ∀ i : Nat, i < 3 → (c = 10 + (i : Int) → gcS (sg i)) ∧ (c ≠ 10 + (i : Int) → gcOK (sg i).2.2.2.2.2)
theorem gc_0 : gcS (1, [], 0, 0, 0, []) := ⟨(fun c h => absurd h List.not_mem_nil), rfl, by decide, rfl, trivial, (fun a h => absurd h List.not_mem_nil), (fun q => absurd q (show ¬ (1 : Int) = 0 by decide)), rfl⟩
theorem gcI.none {c : Int} {sg : Nat → sSt} (h : ∀ i : Nat, i < 3 → gcOK (sg i).2.2.2.2.2) (hc : c < 10) : gcI c sg := fun i hi => ⟨fun e => by omega, fun _ => h i hi⟩
theorem gc_O : ∀ {ts : List hTk} {c cnt lat cl : Int} {td : Nat → Int} {nu : Nat → Int32} {sg : Nat → sSt}, (∀ t : hTk, t ∈ ts → t.1 = 2 → 0 ≤ t.2.2.1) → gcI c sg → (hO ts c cnt lat cl td nu sg).1 = 0 → (hO ts c cnt lat cl td nu sg).2.1 = -1 → gcOK (hO ts c cnt lat cl td nu sg).2.2.2.2.1 ∧ gcOK (hO ts c cnt lat cl td nu sg).2.2.2.2.2.1 ∧ gcOK (hO ts c cnt lat cl td nu sg).2.2.2.2.2.2
  | [], c, cnt, lat, cl, td, nu, sg, ht, hI, h1, h2 => absurd (show (0 : Int) = -1 from h2) (by decide)
  | t :: ts, c, cnt, lat, cl, td, nu, sg, ht, hI, h1, h2 => by
    have ht' : ∀ t : hTk, t ∈ ts → t.1 = 2 → 0 ≤ t.2.2.1 := fun q hq => ht q (List.mem_cons_of_mem _ hq)
    have bad : ∀ f pl : Int, f ≠ 0 → (hBad f pl).1 = 0 → False := fun f pl hf h9 => hf h9
    unfold hO at *
    by_cases e1 : c = -1
    · have hno : ∀ i : Nat, i < 3 → gcOK (sg i).2.2.2.2.2 := fun i hi => (hI i hi).2 (by omega)
      rw [if_pos e1] at *
      by_cases e2 : t.1 = 0
      · rw [if_pos e2] at *
        exact ⟨hno 0 (by decide), hno 1 (by decide), hno 2 (by decide)⟩
      · rw [if_neg e2] at *
        by_cases e3 : t.2.2.2 = -1
        · rw [if_pos e3] at h1
          exact (bad _ _ (by decide) h1).elim
        · rw [if_neg e3] at *
          by_cases e4 : td t.2.2.2.toNat ≠ 0
          · rw [if_pos e4] at h1
            exact (bad _ _ (by decide) h1).elim
          · rw [if_neg e4] at *
            refine gc_O ht' (fun i hi => ?_) h1 h2
            by_cases e5 : 10 ≤ t.2.2.2
            · rw [if_pos e5]
              by_cases e6 : i = (t.2.2.2 - 10).toNat
              · subst e6
                rw [updS_same]
                exact ⟨fun _ => gc_0, fun q => absurd (show t.2.2.2 = 10 + ((t.2.2.2 - 10).toNat : Int) by omega) q⟩
              · rw [show updS sg (t.2.2.2 - 10).toNat (1, [], 0, 0, 0, []) i = sg i from if_neg e6]
                exact ⟨fun q => by omega, fun _ => hno i hi⟩
            · rw [if_neg e5]
              exact ⟨fun q => by omega, fun _ => hno i hi⟩
    · rw [if_neg e1] at *
      by_cases e2 : 10 ≤ c
      · rw [if_pos e2] at *
        by_cases e3 : t.1 = 3 ∧ t.2.2.1 = 59 ∧ (sg (c - 10).toNat).1 = 0 ∧ (sg (c - 10).toNat).2.2.2.1 = 0
        · rw [if_pos e3] at *
          refine gc_O ht' (gcI.none (fun i hi => ?_) (by decide)) h1 h2
          by_cases e6 : i = (c - 10).toNat
          · subst e6
            rw [updS_same]
            exact gc_fin ((hI _ hi).1 (by omega)) e3.2.2.1 e3.2.2.2
          · rw [show updS sg (c - 10).toNat (sFin (sg (c - 10).toNat)) i = sg i from if_neg e6]
            exact (hI i hi).2 (by omega)
        · rw [if_neg e3] at *
          by_cases e4 : (sTt (c - 10) t.1 t.2.2.1 (sg (c - 10).toNat)).1 = 0
          · rw [if_pos e4] at *
            refine gc_O ht' (fun i hi => ?_) h1 h2
            by_cases e6 : i = (c - 10).toNat
            · subst e6
              rw [updS_same]
              exact ⟨fun q => gc_T ((hI _ hi).1 q) (ht t List.mem_cons_self) e4, fun q => absurd (show c = 10 + ((c - 10).toNat : Int) by omega) q⟩
            · rw [show updS sg (c - 10).toNat (sTt (c - 10) t.1 t.2.2.1 (sg (c - 10).toNat)).2 i = sg i from if_neg e6]
              exact hI i hi
          · rw [if_neg e4] at h1
            exact (bad _ _ e4 h1).elim
      · have hno : ∀ i : Nat, i < 3 → gcOK (sg i).2.2.2.2.2 := fun i hi => (hI i hi).2 (by omega)
        rw [if_neg e2] at *
        by_cases e3 : t.1 = 3 ∧ t.2.2.1 = 59 ∧ ((c = 8 ∨ c = 9) ∧ 0 < cnt ∨ ¬ (c = 8 ∨ c = 9) ∧ cnt = hMo c)
        · rw [if_pos e3] at *
          exact gc_O ht' (gcI.none hno (by decide)) h1 h2
        · rw [if_neg e3] at *
          by_cases e4 : t.1 ≠ 2 ∨ (¬ (c = 8 ∨ c = 9) ∧ cnt = hMo c)
          · rw [if_pos e4] at h1
            exact (bad _ _ (by decide) h1).elim
          · rw [if_neg e4] at *
            by_cases e5 : t.2.2.1 < hLo c ∨ hHi c < t.2.2.1 ∨ (¬ (c = 8 ∨ c = 9) ∧ cnt = 1 ∧ (t.2.2.1 < lat ∨ lat + 3 < t.2.2.1))
            · rw [if_pos e5] at h1
              exact (bad _ _ (by decide) h1).elim
            · rw [if_neg e5] at *
              by_cases e6 : cnt = hMo c
              · rw [if_pos e6] at h1
                exact (bad _ _ (by decide) h1).elim
              · rw [if_neg e6] at *
                exact gc_O ht' (gcI.none hno (by omega)) h1 h2
/-- tokens of a tape: a number is not below 0 -/
theorem tL_nn {b : Nat → Int32} {n : Int} : ∀ {ts : List hTk} {p : Int}, p ≤ n → tL b n p ts → ∀ t : hTk, t ∈ ts → t.1 = 2 → 0 ≤ t.2.2.1
  | [], _, _, h, _, _, _ => h.elim
  | t :: ts, p, hp, h, t', ht, hk => by
    obtain ⟨q, ⟨v', h1, h2, h3, h4, h5⟩, h6, h7⟩ := h
    have hl := h1.lt hp
    by_cases e : t.1 = 0
    · rw [h6 e] at ht
      have e' : t' = t := by simpa using ht
      subst e'
      omega
    · rcases List.mem_cons.mp ht with e' | e'
      · subst e'
        have := h2 (Or.inl hk)
        omega
      · exact tL_nn hl.1 (h7 e) t' e' hk
