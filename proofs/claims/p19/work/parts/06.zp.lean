/-! the best teeth -/
/-- the shop with the teeth of a set -/
def Qt (Q : gS) (s : Nat) : gS := fun j => if j = 1 then (fun q => Int32.ofNat (bt_tf s 16 q)) else if j = 3 then (fun k => if k = 6 then Int32.ofNat (bt_tm s 16) else Q 3 k) else Q j
def btP (Q : gS) (C : Nat → List Int) (h : Nat → Int32) (w : Int32) (a0 a1 : Int) (p1 : Int32) (s : Nat) (f : Int) : Prop := pvAr Q a0 a1 f ∧ pvA (Qt Q s) C h w a0 p1 (Int32.ofInt f) (Q 0 9)
def btO (l m u : Nat) : Prop := 1 ≤ u ∧ sb 16 u l ∧ bt_CT 16 u = m
/-- the best of the sets up to s, and its deepest feed -/
def btR (P : Nat → Int → Prop) (l m s : Nat) (b d : Int) : Prop := (b = -1 ∧ d = 0 ∧ ∀ u : Nat, btO l m u → u ≤ s → ∀ f : Int, 1 ≤ f → f ≤ 20 → ¬ P u f) ∨ (∃ t : Nat, b = (t : Int) ∧ btO l m t ∧ t ≤ s ∧ dpR (P t) 0 d ∧ 1 ≤ d ∧ (∀ u : Nat, btO l m u → u ≤ s → ∀ f : Int, d < f → f ≤ 20 → ¬ P u f) ∧ ∀ u : Nat, btO l m u → u < t → ∀ f : Int, d ≤ f → f ≤ 20 → ¬ P u f)
section BT
variable {P P' : Nat → Int → Prop} {l m s s' t : Nat} {b d b' d' r : Int}
theorem dpR.has {P : Int → Prop} {fl r : Int} (h : dpR P fl r) (h1 : 1 ≤ r) : P r ∧ r ≤ 20 := by
  rcases h with ⟨a1, a2⟩ | ⟨a1, a2, a3, a4, a5⟩
  · omega
  · exact ⟨a4, a3⟩
theorem btR.uniq (h : btR P l m s b d) (g : btR P l m s b' d') : b = b' ∧ d = d' := by
  rcases h with ⟨h1, h2, h3⟩ | ⟨t, h1, h2, h3, h4, h5, h6, h7⟩ <;> rcases g with ⟨g1, g2, g3⟩ | ⟨u, g1, g2, g3, g4, g5, g6, g7⟩
  · exact ⟨by omega, by omega⟩
  · obtain ⟨k1, k2⟩ := g4.has g5
    exact absurd k1 (h3 u g2 g3 d' g5 k2)
  · obtain ⟨k1, k2⟩ := h4.has h5
    exact absurd k1 (g3 t h2 h3 d h5 k2)
  · obtain ⟨k1, k2⟩ := g4.has g5
    obtain ⟨k3, k4⟩ := h4.has h5
    have e : t = u := by
      rcases (show t < u ∨ t = u ∨ u < t by omega) with c | c | c
      · rcases (show d' ≤ d ∨ d < d' by omega) with q | q
        · exact absurd k3 (g7 t h2 c d q k4)
        · exact absurd k1 (h6 u g2 g3 d' q k2)
      · exact c
      · rcases (show d ≤ d' ∨ d' < d by omega) with q | q
        · exact absurd k1 (h7 u g2 c d' q k2)
        · exact absurd k3 (g6 t h2 h3 d q k4)
    subst e
    exact ⟨by omega, dpR.uniq h4 g4⟩
theorem btR.to (e : ∀ (u : Nat) (f : Int), P u f ↔ P' u f) (h : btR P l m s b d) : btR P' l m s b d := by
  have e2 : P = P' := funext fun x => funext fun y => propext (e x y)
  rw [← e2]
  exact h
theorem btR.zero : btR P l m 0 (-1) 0 := Or.inl ⟨rfl, rfl, fun u hu h0 => by
  have h1 := hu.1
  omega⟩
/-- nothing between -/
theorem btR.skip (h : btR P l m s b d) (hs : s ≤ s') (hn : ∀ u : Nat, btO l m u → s < u → u ≤ s' → False) : btR P l m s' b d := by
  have k : ∀ u : Nat, btO l m u → u ≤ s' → u ≤ s := fun u h1 h2 => by
    rcases (show u ≤ s ∨ s < u by omega) with c | c
    · exact c
    · exact (hn u h1 c h2).elim
  rcases h with ⟨h1, h2, h3⟩ | ⟨t, h1, h2, h3, h4, h5, h6, h7⟩
  · exact Or.inl ⟨h1, h2, fun u a b => h3 u a (k u a b)⟩
  · exact Or.inr ⟨t, h1, h2, by omega, h4, h5, fun u a b => h6 u a (k u a b), h7⟩
/-- one set more, tried above the best so far -/
theorem btR.gox (h : btR P l m s b d) (ht : btO l m t) (hs : s < t) (hn : ∀ u : Nat, btO l m u → s < u → u < t → False) (hd : dpR (P t) d r) (h' : (r = -1 ∧ b' = b ∧ d' = d) ∨ (r ≠ -1 ∧ b' = (t : Int) ∧ d' = r)) : btR P l m t b' d' := by
  have k : ∀ u : Nat, btO l m u → u ≤ t → u ≤ s ∨ u = t := fun u h1 h2 => by
    rcases (show u ≤ s ∨ u = t ∨ (s < u ∧ u < t) by omega) with c | c | c
    · exact Or.inl c
    · exact Or.inr c
    · exact (hn u h1 c.1 c.2).elim
  rcases hd with ⟨r1, r2⟩ | ⟨r1, r2, r3, r4, r5⟩
  · obtain ⟨-, e1, e2⟩ : r = -1 ∧ b' = b ∧ d' = d := by omega
    rw [e1, e2]
    rcases h with ⟨h1, h2, h3⟩ | ⟨v, h1, h2, h3, h4, h5, h6, h7⟩
    · refine Or.inl ⟨h1, h2, fun u a c f f1 f2 => ?_⟩
      rcases k u a c with q | q
      · exact h3 u a q f f1 f2
      · rw [q]
        exact r2 f (by omega) f1 f2
    · refine Or.inr ⟨v, h1, h2, by omega, h4, h5, fun u a c f f1 f2 => ?_, h7⟩
      rcases k u a c with q | q
      · exact h6 u a q f f1 f2
      · rw [q]
        exact r2 f f1 (by omega) f2
  · obtain ⟨-, e1, e2⟩ : r ≠ -1 ∧ b' = (t : Int) ∧ d' = r := by omega
    rw [e1, e2]
    have low : ∀ u : Nat, btO l m u → u ≤ s → ∀ f : Int, r ≤ f → f ≤ 20 → ¬ P u f := by
      rcases h with ⟨h1, h2, h3⟩ | ⟨v, h1, h2, h3, h4, h5, h6, h7⟩
      · exact fun u a c f f1 f2 => h3 u a c f (by omega) f2
      · exact fun u a c f f1 f2 => h6 u a c f (by omega) f2
    refine Or.inr ⟨t, rfl, ht, Nat.le_refl _, Or.inr ⟨by omega, r2, r3, r4, r5⟩, r2, fun u a c f f1 f2 => ?_, fun u a c f f1 f2 => ?_⟩
    · rcases k u a c with q | q
      · exact low u a q f (by omega) f2
      · rw [q]
        exact r5 f f1 f2
    · rcases k u a (by omega) with q | q
      · exact low u a q f f1 f2
      · omega
theorem btR.goy (h : btR P l m s b d) (h0 : 0 ≤ d) (ht : btO l m t) (hs : t = s + 1) (hd : dpR (P t) 0 r) (h' : (r ≤ d ∧ b' = b ∧ d' = d) ∨ (d < r ∧ b' = (t : Int) ∧ d' = r)) : btR P l m t b' d' := by
  rcases h' with ⟨a1, a2, a3⟩ | ⟨a1, a2, a3⟩
  · refine btR.gox h ht (by omega) (fun u _ _ _ => by omega) (r := -1) (Or.inl ⟨rfl, ?_⟩) (Or.inl ⟨rfl, a2, a3⟩)
    rcases hd with ⟨r1, r2⟩ | ⟨r1, r2, r3, r4, r5⟩
    · exact fun f f1 f2 f3 => r2 f (by omega) f2 f3
    · exact fun f f1 f2 f3 => r5 f (by omega) f3
  · refine btR.gox h ht (by omega) (fun u _ _ _ => by omega) (r := r) ?_ (Or.inr ⟨by omega, a2, a3⟩)
    rcases hd with ⟨r1, r2⟩ | ⟨r1, r2, r3, r4, r5⟩
    · omega
    · exact Or.inr ⟨a1, r2, r3, r4, r5⟩
theorem btR.nn (h : btR P l m s b d) : 0 ≤ d := by
  rcases h with ⟨h1, h2, h3⟩ | ⟨v, h1, h2, h3, h4, h5, h6, h7⟩ <;> omega
end BT
theorem btP_eq {Q : gS} {C : Nat → List Int} {h g : Nat → Int32} {w p1 : Int32} {r a1 f : Int} {s : Nat} (e : ∀ q : Nat, q < 96 → h q = g q) (h0 : 0 ≤ r) (h1 : r ≤ 5) (hn : (Q 0 1).toInt ≤ 6) (hs : (Q 0 0).toInt ≤ 16) : btP Q C h w r a1 p1 s f ↔ btP Q C g w r a1 p1 s f := by
  unfold btP
  rw [pvA_eq (Q := Qt Q s) e h0 h1 hn hs]
theorem bt_tm16 {s : Nat} : bt_tm s 16 ≤ 16 := by
  have h := bt_ctle 16 s
  rw [bt_tmct]
  omega
theorem xSq.set {G G' Q : gS} {C : Nat → List Int} {L : List Nat} {s : Int} (hq : xSq G Q C) (hU : gu_un xcd L G G') (hL : gNo L [1800, 2000, 2300, 2600, 1102, 1202, 1302] = false) (hs : (G' 6 6).toInt = s) (h0 : 0 < s) : xSq G' (Qt Q s.toNat) C := by
  obtain ⟨q1, q2, q3, q4, q5, q6, q7, q8⟩ := hq
  have e18 : G' 18 = G 18 := funext fun k => hU 18 k (gNo.at hL (n := 1800) (by decide))
  have nz : ¬ (G' 6 6).toInt = 0 := by omega
  refine ⟨fun q a b => by rw [e18]; exact q1 q a b, fun q a => by rw [e18] at a ⊢; exact q2 q a, fun q _ => ?_, ?_, ?_, ?_, ?_, q8⟩
  · unfold xTr
    rw [if_neg nz, hs]
    rfl
  · unfold xTn
    rw [if_neg nz, hs]
    show (Int32.ofNat (bt_tm s.toNat 16)).toInt = _
    have b := bt_tm16 (s := s.toNat)
    exact Int32.toInt_ofNat_of_lt (by omega)
  · rw [show G' 20 = G 20 from funext fun k => hU 20 k (gNo.at hL (n := 2000) (by decide)), hU 11 1 (gNo.at hL (n := 1102) (by decide))]
    exact q5
  · rw [show G' 23 = G 23 from funext fun k => hU 23 k (gNo.at hL (n := 2300) (by decide)), hU 12 1 (gNo.at hL (n := 1202) (by decide))]
    exact q6
  · rw [show G' 26 = G 26 from funext fun k => hU 26 k (gNo.at hL (n := 2600) (by decide)), hU 13 1 (gNo.at hL (n := 1302) (by decide))]
    exact q7
theorem ySq.set {G G' Q : gS} {C : Nat → List Int} {L : List Nat} {s : Nat} (hq : ySq G Q C) (hU : gu_un ycd L G G') (hL : gNo L [700, 1000, 1100, 1200] = false) (h3 : ∀ q : Nat, q ≠ 10 → G' 3 q = G 3 q) (h10 : (G' 3 10).toInt = (bt_tm s 16 : Int)) (h5 : ∀ q : Nat, (q : Int) < (bt_tm s 16 : Int) → G' 5 q = Int32.ofNat (bt_tf s 16 q)) : ySq G' (Qt Q s) C := by
  obtain ⟨q1, q2, q3, q4, q5, q6, q7, q8⟩ := hq
  have e7 : G' 7 = G 7 := funext fun k => hU 7 k (gNo.at hL (n := 700) (by decide))
  have e10 : G' 10 = G 10 := funext fun k => hU 10 k (gNo.at hL (n := 1000) (by decide))
  have e11 : G' 11 = G 11 := funext fun k => hU 11 k (gNo.at hL (n := 1100) (by decide))
  have e12 : G' 12 = G 12 := funext fun k => hU 12 k (gNo.at hL (n := 1200) (by decide))
  have eL : ∀ w : Int, mL w G' = mL w G := fun w => by
    unfold mL
    simp only [e10, e11, e12]
  refine ⟨fun q a b => by rw [h3 q b]; exact q1 q a b, fun q a => by rw [h3 11 (by decide)] at a; rw [e7]; exact q2 q a, fun q a => ?_, ?_, by rw [eL]; exact q5, by rw [eL]; exact q6, by rw [eL]; exact q7, q8⟩
  · rw [h10] at a
    exact (h5 q a).symm
  · rw [h10]
    show (Int32.ofNat (bt_tm s 16)).toInt = _
    have b := bt_tm16 (s := s)
    exact Int32.toInt_ofNat_of_lt (by omega)
theorem lSp.un2 {G G' : gS} {L : List Nat} (h : lSp G) (hU : gu_un xcd L G G') (hL : gNo L [1800] = false) : lSp G' := by
  unfold lSp at *
  rw [show G' 18 = G 18 from funext fun k => hU 18 k (gNo.at hL (n := 1800) (by decide))]
  exact h
