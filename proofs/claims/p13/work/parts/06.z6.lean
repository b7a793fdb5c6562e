/-! the tokens of a text as a list -/
def tW (b : Nat → Int32) (n pl q : Int) : List Int := (List.range (q - pl).toNat).map (fun i => yBi b n (pl + (i : Nat)))
/-- the words of the clauses -/
def cWd : List (List Int) := [[115, 101, 99, 116, 111, 114, 115], [114, 105, 110, 103, 115], [109, 97, 115, 115], [115, 116, 105, 102, 102], [100, 97, 109, 112], [108, 105, 109, 105, 116], [109, 97, 114, 107], [116, 117, 114, 110, 115], [116, 101, 101, 116, 104], [115, 119, 97, 121], [102, 111, 114, 99, 101], [119, 97, 108, 108], [119, 101, 97, 114]]
def cixL (l : List Int) : List (List Int) → Int → Int
  | [], _ => -1
  | w :: ws, m => if l = w then m else cixL l ws (m + 1)
def cix (k : Int) (l : List Int) : Int := if k = 1 then cixL l cWd 0 else -1
theorem cixL_at {l : List Int} : ∀ {ws : List (List Int)} {m : Int} {j : Nat} (hj : j < ws.length), ws.Nodup → l = ws[j] → cixL l ws m = m + j
  | [], _, _, hj, _, _ => absurd hj (Nat.not_lt_zero _)
  | w :: ws, m, 0, hj, hn, he => by
    show (if l = w then m else cixL l ws (m + 1)) = _
    rw [if_pos (show l = w from he)]
    omega
  | w :: ws, m, j + 1, hj, hn, he => by
    have h1 : j < ws.length := by simpa using hj
    have h2 : l = ws[j] := he
    have h3 : ¬ l = w := fun e => by
      have := (List.nodup_cons.mp hn).1
      rw [← e, h2] at this
      exact this (List.getElem_mem h1)
    show (if l = w then m else cixL l ws (m + 1)) = _
    rw [if_neg h3, cixL_at h1 (List.nodup_cons.mp hn).2 h2]
    omega
theorem cixL_no {l : List Int} : ∀ {ws : List (List Int)} {m : Int}, (∀ j : Nat, (hj : j < ws.length) → l ≠ ws[j]) → cixL l ws m = -1
  | [], _, _ => rfl
  | w :: ws, m, h => by
    show (if l = w then m else cixL l ws (m + 1)) = _
    have h0 : ¬ l = w := h 0 (by simp)
    rw [if_neg h0, cixL_no (fun j hj => h (j + 1) (by simpa using hj))]
theorem cWd_nd : cWd.Nodup := by decide
theorem all_1 {P : Nat → Prop} {x y : Int} (h : ∀ j : Nat, (j : Int) < x → P j) (h0 : 0 ≤ x) (hy : y = x + 1) (hx : P x.toNat) : ∀ j : Nat, (j : Int) < y → P j := fun j hj => by
  by_cases e : j = x.toNat
  · rw [e]; exact hx
  · exact h j (by omega)
theorem yBi_rng {b : Nat → Int32} {n k : Int} : 0 ≤ yBi b n k ∧ yBi b n k ≤ 255 := by
  unfold yBi
  split
  · exact ti_andm (b := 255) rfl (by decide)
  · omega
/-- a word and the bytes at hand -/
def wMt (b : Nat → Int32) (n pl q : Int) (f : Nat → Int32) (m : Nat) : Prop := q - pl = m ∧ ∀ i : Nat, i < m → yBi b n (pl + (i : Nat)) = (f i &&& 255).toInt
theorem wMt_iff {b : Nat → Int32} {n pl q : Int} {f : Nat → Int32} {m : Nat} {l : List Int} (hq : pl ≤ q) (hl : l.length = m) (he : ∀ i : Nat, (hi : i < l.length) → (f i &&& 255).toInt = l[i]) : wMt b n pl q f m ↔ tW b n pl q = l := by
  constructor
  · intro h
    have hm : (q - pl).toNat = m := by have := h.1; omega
    apply List.ext_getElem?
    intro i
    unfold tW
    rw [List.getElem?_map, hm]
    by_cases e : i < m
    · rw [List.getElem?_range e, List.getElem?_eq_getElem (show i < l.length by omega), ← he i (by omega)]
      exact congrArg some (h.2 i e)
    · rw [List.getElem?_eq_none (by rw [List.length_range]; omega), List.getElem?_eq_none (by omega)]
      rfl
  · intro h
    have h0 : (q - pl).toNat = m := by
      rw [← hl, ← h]
      unfold tW
      rw [List.length_map, List.length_range]
    refine ⟨by omega, fun i hi => ?_⟩
    have h1 : i < l.length := by omega
    rw [he i h1]
    have h2 : (tW b n pl q)[i]? = l[i]? := by rw [h]
    rw [List.getElem?_eq_getElem h1] at h2
    unfold tW at h2
    rw [List.getElem?_map, List.getElem?_range (by omega)] at h2
    exact Option.some.inj h2
theorem tW_eq {b b' : Nat → Int32} {n pl q : Int} (h : ∀ i : Nat, (i : Int) < n → b' i = b i) (hp : 0 ≤ pl) : tW b' n pl q = tW b n pl q := by
  unfold tW
  apply List.map_congr_left
  intro i _
  exact yBi_eq h (by omega)
/-- the token from p on, with all that is told of it; what is behind it -/
def tT (b : Nat → Int32) (n p : Int) (t : hTk) (q : Int) : Prop := ∃ v' : Int, tTok b n p t.1 t.2.1 v' q ∧ (t.1 = 2 ∨ t.1 = 3 → t.2.2.1 = v') ∧ (t.1 = 1 → (q - t.2.1 = 1 ∧ t.2.2.1 = yBi b n t.2.1) ∨ (q - t.2.1 ≠ 1 ∧ t.2.2.1 = 0)) ∧ (t.1 = 0 ∨ t.1 = 4 → t.2.2.1 = 0) ∧ t.2.2.2 = cix t.1 (tW b n t.2.1 q)
def tL (b : Nat → Int32) (n : Int) : Int → List hTk → Prop
  | _, [] => False
  | p, t :: ts => ∃ q : Int, tT b n p t q ∧ (t.1 = 0 → ts = []) ∧ (t.1 ≠ 0 → tL b n q ts)
theorem tT.uniq {b : Nat → Int32} {n p q q' : Int} {t t' : hTk} (hp : p ≤ n) (h : tT b n p t q) (g : tT b n p t' q') : t = t' ∧ q = q' := by
  obtain ⟨k, pl, v, ci⟩ := t
  obtain ⟨k', pl', v', ci'⟩ := t'
  obtain ⟨x, h1, h2, h3, h4, h5⟩ := h
  obtain ⟨y, g1, g2, g3, g4, g5⟩ := g
  have hl := h1.lt hp
  obtain ⟨e1, e2, e3, e4⟩ := h1.uniq g1
  simp only at *
  subst e1 e2 e3
  have e5 : v = v' := by
    rcases (show k = 0 ∨ k = 1 ∨ k = 2 ∨ k = 3 ∨ k = 4 by omega) with e | e | e | e | e
    · rw [h4 (Or.inl e), g4 (Or.inl e)]
    · have a1 := h3 e
      have a2 := g3 e
      omega
    · rw [h2 (Or.inl e), g2 (Or.inl e)]; exact e4 (Or.inl e)
    · rw [h2 (Or.inr e), g2 (Or.inr e)]; exact e4 (Or.inr e)
    · rw [h4 (Or.inr e), g4 (Or.inr e)]
  rw [e5, h5, g5]
  exact ⟨rfl, rfl⟩
theorem tT.eq {b b' : Nat → Int32} {n p q : Int} {t : hTk} (he : ∀ i : Nat, (i : Int) < n → b' i = b i) (hp : 0 ≤ p) (h : tT b n p t q) : tT b' n p t q := by
  obtain ⟨x, h1, h2, h3, h4, h5⟩ := h
  have hl : 0 ≤ t.2.1 := by have := h1.1.1.1; omega
  refine ⟨x, h1.eq he hp, h2, ?_, h4, ?_⟩
  · rw [yBi_eq he hl]; exact h3
  · rw [tW_eq he hl]; exact h5
theorem tL.uniq {b b' : Nat → Int32} {n : Int} (he : ∀ i : Nat, (i : Int) < n → b' i = b i) : ∀ {ts ts' : List hTk} {p : Int}, 0 ≤ p → p ≤ n → tL b n p ts → tL b' n p ts' → ts = ts'
  | [], _, _, _, _, h, _ => h.elim
  | _ :: _, [], _, _, _, _, h => h.elim
  | t :: ts, t' :: ts', p, h0, hp, h, g => by
    obtain ⟨q, h1, h2, h3⟩ := h
    obtain ⟨q', g1, g2, g3⟩ := g
    have h1' := h1.eq he h0
    obtain ⟨e1, e2⟩ := h1'.uniq hp g1
    subst e1 e2
    have hl : q ≤ n ∧ p ≤ q := by
      obtain ⟨x, a1, -⟩ := h1
      have := a1.lt hp
      omega
    by_cases e : t.1 = 0
    · rw [h2 e, g2 e]
    · rw [tL.uniq he (by omega) hl.1 (h3 e) (g3 e)]
theorem tRun_ex {P : Int → Prop} {b : Nat → Int32} {n : Int} : ∀ {m : Nat} {p : Int}, (n - p).toNat = m → ∃ q : Int, tRun P b n p q
  | 0, p, h => ⟨p, tPre.rf, fun h1 => by omega⟩
  | m + 1, p, h => by
    by_cases e : p < n ∧ P (yBi b n p)
    · obtain ⟨q, h1⟩ := tRun_ex (P := P) (b := b) (n := n) (m := m) (p := p + 1) (by omega)
      refine ⟨q, ⟨by have := h1.1.1; omega, fun i a1 a2 => ?_⟩, h1.2⟩
      by_cases e2 : i = p
      · subst e2; exact e
      · exact h1.1.2 i (by omega) a2
    · exact ⟨p, tPre.rf, e⟩
theorem tTok_ex {b : Nat → Int32} {n p : Int} : ∃ k pl v q : Int, tTok b n p k pl v q := by
  obtain ⟨pl, h0⟩ := tRun_ex (P := tBl) (b := b) (n := n) (p := p) rfl
  by_cases e : n ≤ pl
  · exact ⟨0, pl, 0, pl, h0, Or.inl ⟨e, rfl, rfl⟩⟩
  · by_cases e1 : tLe (yBi b n pl)
    · obtain ⟨q, h1⟩ := tRun_ex (P := tLe) (b := b) (n := n) (p := pl) rfl
      by_cases e2 : q - pl ≤ 8
      · exact ⟨1, pl, 0, q, h0, Or.inr (Or.inl ⟨by omega, e1, h1, Or.inl ⟨e2, rfl⟩⟩)⟩
      · exact ⟨4, pl, 0, q, h0, Or.inr (Or.inl ⟨by omega, e1, h1, Or.inr ⟨by omega, rfl⟩⟩)⟩
    · by_cases e2 : tDi (yBi b n pl)
      · obtain ⟨q, h1⟩ := tRun_ex (P := tDi) (b := b) (n := n) (p := pl) rfl
        by_cases e3 : q - pl ≤ 4
        · exact ⟨2, pl, _, q, h0, Or.inr (Or.inr (Or.inl ⟨by omega, e2, h1, Or.inl ⟨e3, rfl, rfl⟩⟩))⟩
        · exact ⟨4, pl, 0, q, h0, Or.inr (Or.inr (Or.inl ⟨by omega, e2, h1, Or.inr ⟨by omega, rfl⟩⟩))⟩
      · by_cases e3 : tSg (yBi b n pl)
        · exact ⟨3, pl, _, pl + 1, h0, Or.inr (Or.inr (Or.inr ⟨by omega, e1, e2, rfl, Or.inl ⟨e3, rfl, rfl⟩⟩))⟩
        · exact ⟨4, pl, 0, pl + 1, h0, Or.inr (Or.inr (Or.inr ⟨by omega, e1, e2, rfl, Or.inr ⟨e3, rfl⟩⟩))⟩
/-- a token with its values -/
theorem tT.of {b : Nat → Int32} {n p k pl v q : Int} (h : tTok b n p k pl v q) : tT b n p (k, pl, if k = 2 ∨ k = 3 then v else if k = 1 ∧ q - pl = 1 then yBi b n pl else 0, cix k (tW b n pl q)) q := by
  refine ⟨v, h, fun e => ?_, fun e => ?_, fun e => ?_, rfl⟩
  · show (if k = 2 ∨ k = 3 then v else _) = v
    rw [if_pos e]
  · have e' : k = 1 := e
    show (q - pl = 1 ∧ (if k = 2 ∨ k = 3 then v else if k = 1 ∧ q - pl = 1 then yBi b n pl else 0) = yBi b n pl) ∨ (q - pl ≠ 1 ∧ (if k = 2 ∨ k = 3 then v else if k = 1 ∧ q - pl = 1 then yBi b n pl else 0) = 0)
    rw [if_neg (by omega)]
    by_cases e1 : q - pl = 1
    · left; rw [if_pos ⟨e', e1⟩]; exact ⟨e1, rfl⟩
    · right; rw [if_neg (fun h9 => e1 h9.2)]; exact ⟨e1, rfl⟩
  · have e' : k = 0 ∨ k = 4 := e
    show (if k = 2 ∨ k = 3 then v else if k = 1 ∧ q - pl = 1 then yBi b n pl else 0) = 0
    rw [if_neg (by omega), if_neg (by omega)]
theorem tL_ex {b : Nat → Int32} {n : Int} : ∀ {m : Nat} {p : Int}, p ≤ n → (n - p).toNat ≤ m → ∃ ts : List hTk, tL b n p ts
  | m, p, hp, hm => by
    obtain ⟨k, pl, v, q, h⟩ := tTok_ex (b := b) (n := n) (p := p)
    have hl := h.lt hp
    have ht := tT.of h
    by_cases e : k = 0
    · exact ⟨[_], q, ht, fun _ => rfl, fun h9 => absurd e h9⟩
    · match m, hm with
      | 0, hm => exact absurd (hl.2.2.2.1 e) (by omega)
      | m + 1, hm =>
        obtain ⟨ts, h1⟩ := tL_ex (b := b) (n := n) (m := m) (p := q) hl.1 (by have := hl.2.2.2.1 e; omega)
        exact ⟨_ :: ts, q, ht, fun h9 => absurd h9 e, fun _ => h1⟩
/-- the list at p, opened -/
theorem tL.at {b : Nat → Int32} {n p k pl v q : Int} {ts : List hTk} (h : tL b n p ts) (ht : tTok b n p k pl v q) (hp : p ≤ n) : ∃ (v' : Int) (ts' : List hTk), ts = (k, pl, v', cix k (tW b n pl q)) :: ts' ∧ (k = 2 ∨ k = 3 → v' = v) ∧ (k = 1 → (q - pl = 1 ∧ v' = yBi b n pl) ∨ (q - pl ≠ 1 ∧ v' = 0)) ∧ (k = 0 ∨ k = 4 → v' = 0) ∧ (k = 0 → ts' = []) ∧ (k ≠ 0 → tL b n q ts') := by
  cases ts with
  | nil => exact h.elim
  | cons t ts =>
    obtain ⟨q', h1, h2, h3⟩ := h
    have g1 := tT.of ht
    obtain ⟨e1, e2⟩ := h1.uniq hp g1
    subst e1 e2
    obtain ⟨x, a1, a2, a3, a4, a5⟩ := g1
    refine ⟨_, ts, rfl, fun e => ?_, a3, a4, h2, h3⟩
    show (if k = 2 ∨ k = 3 then v else _) = v
    rw [if_pos e]
def yCi (G : gS) : Int := cix (G 0 6).toInt (tW (G 2) (G 0 3).toInt (G 0 4).toInt (G 0 5).toInt)
/-- the letter at hand -/
def yLt (ls : Int) (G : gS) : Int := if (G 0 6).toInt = 1 ∧ (G 0 5).toInt - (G 0 4).toInt = 1 then sLi ls (yBi (G 2) (G 0 3).toInt (G 0 4).toInt) else -1
/-- which word is at hand: looked for among the first i -/
def cFd (k : Int) (l : List Int) (i f : Int) : Prop := (f = -1 ∧ ∀ j : Nat, (j : Int) < i → ¬ (k = 1 ∧ l = cWd.getD j [])) ∨ (0 ≤ f ∧ f < i ∧ k = 1 ∧ l = cWd.getD f.toNat [])
theorem cFd.at0 {k : Int} {l : List Int} : cFd k l 0 (-1) := Or.inl ⟨rfl, fun j hj => by omega⟩
theorem cFd.yes {k i y : Int} {l : List Int} (h0 : 0 ≤ i) (hy : y = i + 1) (hk : k = 1) (hl : l = cWd.getD i.toNat []) : cFd k l y i := Or.inr ⟨h0, by omega, hk, hl⟩
theorem cFd.no {k i y f : Int} {l : List Int} (h : cFd k l i f) (h0 : 0 ≤ i) (hy : y = i + 1) (hn : ¬ (k = 1 ∧ l = cWd.getD i.toNat [])) : cFd k l y f := by
  rcases h with ⟨a, b⟩ | ⟨a, b, c, d⟩
  · refine Or.inl ⟨a, fun j hj => ?_⟩
    by_cases e : (j : Int) = i
    · rw [show j = i.toNat by omega]; exact hn
    · exact b j (by omega)
  · exact Or.inr ⟨a, by omega, c, d⟩
theorem cFd.fin {k i f : Int} {l : List Int} (h : cFd k l i f) (hi : i = 13) : cix k l = f := by
  unfold cix
  have hn : cWd.length = 13 := rfl
  rcases h with ⟨a, b⟩ | ⟨a, b, c, d⟩
  · by_cases e : k = 1
    · rw [if_pos e, a]
      refine cixL_no (fun j hj h9 => b j (by omega) ⟨e, ?_⟩)
      rw [h9, List.getD_eq_getElem?_getD, List.getElem?_eq_getElem hj]
      rfl
    · rw [if_neg e, a]
  · rw [if_pos c, cixL_at (j := f.toNat) (by omega) cWd_nd (by rw [d, List.getD_eq_getElem?_getD, List.getElem?_eq_getElem (show f.toNat < cWd.length by omega)]; rfl)]
    omega
theorem is1_y {b : Nat → Int32} {n pl q k r c : Int} {f : Nat → Int32} (h : (r = 1 ∧ k = 1 ∧ wMt b n pl q f 1) ∨ (r = 0 ∧ ¬ (k = 1 ∧ wMt b n pl q f 1))) (hc : (f 0 &&& 255).toInt = c) : (r = 1 ∧ k = 1 ∧ q - pl = 1 ∧ yBi b n pl = c) ∨ (r = 0 ∧ ¬ (k = 1 ∧ q - pl = 1 ∧ yBi b n pl = c)) := by
  have e : wMt b n pl q f 1 ↔ q - pl = 1 ∧ yBi b n pl = c := by
    constructor
    · intro h9
      have h8 := h9.2 0 (by omega)
      rw [show pl + ((0 : Nat) : Int) = pl by omega, hc] at h8
      exact ⟨h9.1, h8⟩
    · intro h9
      refine ⟨h9.1, fun i hi => ?_⟩
      obtain rfl : i = 0 := by omega
      rw [show pl + ((0 : Nat) : Int) = pl by omega, hc]
      exact h9.2
  rw [e] at h
  exact h
theorem ci_yes {k : Int} {l : List Int} {j : Nat} (hk : k = 1) (hl : l = cWd.getD j []) (hj : j < 13) : cix k l = (j : Int) := cFd.fin (i := 13) (Or.inr ⟨by omega, by omega, hk, by rw [show ((j : Nat) : Int).toNat = j by omega]; exact hl⟩) rfl
