/-! the shop's text, token by token -/
/-- a sentence that is kept out of reckonings -/
def tY (P : Prop) : Prop := P
/-- how strongly a sign binds -/
def xsg (c : Int) : Int := if c = 42 ∨ c = 47 ∨ c = 37 then 2 else if c = 43 ∨ c = 45 then 1 else 0
theorem xsg_le (c : Int) : 0 ≤ xsg c ∧ xsg c ≤ 2 := by
  unfold xsg
  split
  · omega
  · split <;> omega
theorem xsg_40 : xsg 40 = 0 := by decide
theorem xsg_m3 : xsg (-3) = 0 := by decide
theorem xsg_2 {c : Int} : xsg c = 2 ↔ (c = 42 ∨ c = 47 ∨ c = 37) := by
  unfold xsg
  split
  · simp [*]
  · split <;> omega
theorem xsg_1 {c : Int} : xsg c = 1 ↔ (c = 43 ∨ c = 45) := by
  unfold xsg
  split
  · omega
  · split <;> omega
/-- a row's first numbers, the latest first -/
def tkr (f : Nat → Int32) : Nat → List Int
  | 0 => []
  | m + 1 => (f m).toInt :: tkr f m
theorem tkr_ext {f g : Nat → Int32} : ∀ {m : Nat}, (∀ i : Nat, i < m → g i = f i) → tkr g m = tkr f m
  | 0, _ => rfl
  | m + 1, h => by
    show (g m).toInt :: tkr g m = (f m).toInt :: tkr f m
    rw [h m (by omega), tkr_ext (fun i hi => h i (by omega))]
theorem tkr_push {f : Nat → Int32} {n : Int} {v : Int32} (h : 0 ≤ n) {y : Int} (hy : y = n + 1) : tkr (upd f n.toNat v) y.toNat = v.toInt :: tkr f n.toNat := by
  rw [hy, show (n + 1).toNat = n.toNat + 1 by omega]
  show (upd f n.toNat v n.toNat).toInt :: tkr (upd f n.toNat v) n.toNat = _
  rw [show upd f n.toNat v n.toNat = v from if_pos rfl, tkr_ext (fun i hi => show upd f n.toNat v i = f i from if_neg (by omega))]
theorem tkr_pop {f : Nat → Int32} {n : Int} (h : 1 ≤ n) {y : Int} (hy : y = n - 1) : tkr f n.toNat = (f y.toNat).toInt :: tkr f y.toNat := by
  rw [hy, show n.toNat = (n - 1).toNat + 1 by omega]
  rfl
theorem tkr_0 {f : Nat → Int32} {n : Int} (h : n ≤ 0) : tkr f n.toNat = [] := by
  rw [show n.toNat = 0 by omega]
  rfl
/-- what waits is joined, down to a strength -/
def sJ (s : Int) : List Int → List Int → List Int × List Int
  | [], cs => ([], cs)
  | a :: w, cs => if s ≤ xsg a then sJ s w ((-3 - a) :: cs) else (a :: w, cs)
/-- minuses of factors are closed -/
def sM : List Int → Int → List Int → List Int × Int × List Int
  | [], o, cs => ([], o, cs)
  | a :: w, o, cs => if a = -3 then sM w (o - 1) (-3 :: cs) else (a :: w, o, cs)
theorem sJ_go {s a : Int} {w cs : List Int} (h : s ≤ xsg a) : sJ s (a :: w) cs = sJ s w ((-3 - a) :: cs) := by
  show (if s ≤ xsg a then sJ s w ((-3 - a) :: cs) else (a :: w, cs)) = _
  rw [if_pos h]
theorem sJ_no {s a : Int} {w cs : List Int} (h : xsg a < s) : sJ s (a :: w) cs = (a :: w, cs) := by
  show (if s ≤ xsg a then sJ s w ((-3 - a) :: cs) else (a :: w, cs)) = _
  rw [if_neg (by omega)]
theorem sM_go {a o : Int} {w cs : List Int} (h : a = -3) : sM (a :: w) o cs = sM w (o - 1) (-3 :: cs) := by
  show (if a = -3 then sM w (o - 1) (-3 :: cs) else (a :: w, o, cs)) = _
  rw [if_pos h]
theorem sM_no {a o : Int} {w cs : List Int} (h : a ≠ -3) : sM (a :: w) o cs = (a :: w, o, cs) := by
  show (if a = -3 then sM w (o - 1) (-3 :: cs) else (a :: w, o, cs)) = _
  rw [if_neg h]
/-- a sum that is being read: does it want an operand, what waits, how many are open, parentheses, operands, codes -/
abbrev sSt : Type := Int × List Int × Int × Int × Int × List Int
def sZ : sSt := (0, [], 0, 0, 0, [])
def sLi (ls v : Int) : Int := if ls = 1 then (if v = 108 then 0 else if v = 103 then 1 else -1) else if v = 104 then 0 else if ls = 0 ∧ v = 119 then 1 else -1
theorem sLi_rng {ls v : Int} : -1 ≤ sLi ls v ∧ sLi ls v ≤ 1 ∧ (ls = 2 → sLi ls v ≤ 0) := by
  unfold sLi
  split
  · split
    · omega
    · split <;> omega
  · split
    · omega
    · split <;> omega
def sOp (code : Int) (w : List Int) (o p n : Int) (cs : List Int) : Int × sSt := if 12 ≤ n then (4, sZ) else (0, (0, (sM w o (code :: cs)).1, (sM w o (code :: cs)).2.1, p, n + 1, (sM w o (code :: cs)).2.2))
/-- a token of a sum -/
def sT (ls k v wt : Int) (w : List Int) (o p n : Int) (cs : List Int) : Int × sSt :=
  if wt = 0 then
    if k = 3 ∧ v = 41 ∧ 0 < p then (0, (0, (sM (sJ 1 w cs).1.tail (o - 1) (sJ 1 w cs).2).1, (sM (sJ 1 w cs).1.tail (o - 1) (sJ 1 w cs).2).2.1, p - 1, n, (sM (sJ 1 w cs).1.tail (o - 1) (sJ 1 w cs).2).2.2))
    else if k = 3 ∧ xsg v ≠ 0 then (0, (1, v :: (sJ (xsg v) w cs).1, o, p, n, (sJ (xsg v) w cs).2))
    else (1, sZ)
  else if k = 3 ∧ v = 40 then (if 4 ≤ o then (4, sZ) else (0, (1, 40 :: w, o + 1, p + 1, n, cs)))
  else if k = 3 ∧ v = 45 then (if 4 ≤ o then (4, sZ) else (0, (1, -3 :: w, o + 1, p, n, cs)))
  else if k = 2 then sOp v w o p n cs
  else if k = 1 ∧ sLi ls v ≠ -1 then sOp (-1 - sLi ls v) w o p n cs
  else (1, sZ)
/-- a token: kind, place, value, which clause -/
abbrev hTk : Type := Int × Int × Int × Int
/-- what a text tells: fault's kind, its place, clauses, numbers, codes of the sums -/
abbrev hRes : Type := Int × Int × Int × (Nat → Int32) × List Int × List Int × List Int
def hBad (f pl : Int) : hRes := (f, pl, 0, fun _ => 0, [], [], [])
def updS (g : Nat → sSt) (i : Nat) (s : sSt) : Nat → sSt := fun k => if k = i then s else g k
def updI (g : Nat → Int) (i : Nat) (s : Int) : Nat → Int := fun k => if k = i then s else g k
theorem updS_same {g : Nat → sSt} {i : Nat} {s : sSt} : updS g i s i = s := if_pos rfl
theorem updS_twice {g : Nat → sSt} {i : Nat} {s s' : sSt} : updS (updS g i s) i s' = updS g i s' := funext fun k => by
  show (if k = i then s' else if k = i then s else g k) = if k = i then s' else g k
  by_cases e : k = i
  · rw [if_pos e, if_pos e]
  · rw [if_neg e, if_neg e, if_neg e]
def hMo (c : Int) : Int := if c = 3 ∨ c = 4 then 2 else if c = 8 then 4 else if c = 9 then 6 else 1
def hLo (c : Int) : Int := if c = 0 then 4 else if c = 1 ∨ c = 2 ∨ c = 5 ∨ c = 7 then 1 else 0
def hHi (c : Int) : Int := if c = 0 then 16 else if c = 1 then 6 else if c = 2 then 99 else if c = 3 ∨ c = 4 then 200 else if c = 5 ∨ c = 6 then 9999 else if c = 7 then 12 else if c = 8 then 15 else 9
def hSl (c : Int) : Int := if c = 8 then 20 else if c = 9 then 30 else if c ≤ 3 then c else if c = 4 then 5 else c + 2
def sFin (s : sSt) : sSt := (s.1, (sJ 1 s.2.1 s.2.2.2.2.2).1, s.2.2.1, s.2.2.2.1, s.2.2.2.2.1, (sJ 1 s.2.1 s.2.2.2.2.2).2)
def sTt (ls k v : Int) (s : sSt) : Int × sSt := sT ls k v s.1 s.2.1 s.2.2.1 s.2.2.2.1 s.2.2.2.2.1 s.2.2.2.2.2
/-- what a text tells: the clause that is open (or -1), its numbers so far, the latest, clauses so far, which were told, numbers, sums -/
def hO : List hTk → Int → Int → Int → Int → (Nat → Int) → (Nat → Int32) → (Nat → sSt) → hRes
  | [], _, _, _, _, _, _, _ => hBad 0 0
  | t :: ts, c, cnt, lat, cl, td, nu, sg =>
    if c = -1 then
      if t.1 = 0 then (0, -1, cl, nu, (sg 0).2.2.2.2.2, (sg 1).2.2.2.2.2, (sg 2).2.2.2.2.2)
      else if t.2.2.2 = -1 then hBad 1 t.2.1
      else if td t.2.2.2.toNat ≠ 0 then hBad 3 t.2.1
      else hO ts t.2.2.2 0 lat cl (updI td t.2.2.2.toNat 1) nu (if 10 ≤ t.2.2.2 then updS sg (t.2.2.2 - 10).toNat (1, [], 0, 0, 0, []) else sg)
    else if 10 ≤ c then
      if t.1 = 3 ∧ t.2.2.1 = 59 ∧ (sg (c - 10).toNat).1 = 0 ∧ (sg (c - 10).toNat).2.2.2.1 = 0 then hO ts (-1) cnt lat (cl + 1) td nu (updS sg (c - 10).toNat (sFin (sg (c - 10).toNat)))
      else if (sTt (c - 10) t.1 t.2.2.1 (sg (c - 10).toNat)).1 = 0 then hO ts c cnt lat cl td nu (updS sg (c - 10).toNat (sTt (c - 10) t.1 t.2.2.1 (sg (c - 10).toNat)).2)
      else hBad (sTt (c - 10) t.1 t.2.2.1 (sg (c - 10).toNat)).1 t.2.1
    else
      if t.1 = 3 ∧ t.2.2.1 = 59 ∧ ((c = 8 ∨ c = 9) ∧ 0 < cnt ∨ ¬ (c = 8 ∨ c = 9) ∧ cnt = hMo c) then hO ts (-1) cnt lat (cl + 1) td (if c = 8 then upd nu 10 (Int32.ofInt cnt) else if c = 9 then upd nu 11 (Int32.ofInt cnt) else nu) sg
      else if t.1 ≠ 2 ∨ (¬ (c = 8 ∨ c = 9) ∧ cnt = hMo c) then hBad 1 t.2.1
      else if t.2.2.1 < hLo c ∨ hHi c < t.2.2.1 ∨ (¬ (c = 8 ∨ c = 9) ∧ cnt = 1 ∧ (t.2.2.1 < lat ∨ lat + 3 < t.2.2.1)) then hBad 2 t.2.1
      else if cnt = hMo c then hBad 4 t.2.1
      else hO ts c (cnt + 1) t.2.2.1 cl td (upd nu (hSl c + cnt).toNat (Int32.ofInt t.2.2.1)) sg
/-- the sum i is being read -/
def hF (ts : List hTk) (i : Nat) (cnt lat cl : Int) (td : Nat → Int) (nu : Nat → Int32) (sg : Nat → sSt) (s : sSt) : hRes := hO ts (10 + (i : Int)) cnt lat cl td nu (updS sg i s)
section HF
variable {ts : List hTk} {i : Nat} {cnt lat cl : Int} {td : Nat → Int} {nu : Nat → Int32} {sg : Nat → sSt} {s : sSt} {k pl v ci : Int}
theorem hF_step : hF ((k, pl, v, ci) :: ts) i cnt lat cl td nu sg s = if k = 3 ∧ v = 59 ∧ s.1 = 0 ∧ s.2.2.2.1 = 0 then hO ts (-1) cnt lat (cl + 1) td nu (updS sg i (sFin s)) else if (sTt i k v s).1 = 0 then hF ts i cnt lat cl td nu sg (sTt i k v s).2 else hBad (sTt i k v s).1 pl := by
  unfold hF
  conv => lhs; unfold hO
  have e : (10 + (i : Int) - 10).toNat = i := by omega
  have e2 : 10 + (i : Int) - 10 = i := by omega
  rw [if_neg (show ¬ (10 + (i : Int) = -1) by omega), if_pos (show 10 ≤ 10 + (i : Int) by omega), e, e2, updS_same, updS_twice, updS_twice]
theorem hF_fin (h1 : k = 3) (h2 : v = 59) (h3 : s.1 = 0) (h4 : s.2.2.2.1 = 0) : hF ((k, pl, v, ci) :: ts) i cnt lat cl td nu sg s = hO ts (-1) cnt lat (cl + 1) td nu (updS sg i (sFin s)) := by
  rw [hF_step, if_pos ⟨h1, h2, h3, h4⟩]
theorem hF_ok {s' : sSt} (hn : ¬ (k = 3 ∧ v = 59 ∧ s.1 = 0 ∧ s.2.2.2.1 = 0)) (h : sTt i k v s = (0, s')) : hF ((k, pl, v, ci) :: ts) i cnt lat cl td nu sg s = hF ts i cnt lat cl td nu sg s' := by
  rw [hF_step, if_neg hn, h, if_pos rfl]
theorem hF_bad {f : Int} (hn : ¬ (k = 3 ∧ v = 59 ∧ s.1 = 0 ∧ s.2.2.2.1 = 0)) (h : sTt i k v s = (f, sZ)) (hf : f ≠ 0) : hF ((k, pl, v, ci) :: ts) i cnt lat cl td nu sg s = hBad f pl := by
  rw [hF_step, if_neg hn, h, if_neg hf]
variable {w cs : List Int} {o p n a : Int}
theorem hF_open (h1 : k = 3) (h2 : v = 40) (h4 : o < 4) : hF ((k, pl, v, ci) :: ts) i cnt lat cl td nu sg (1, w, o, p, n, cs) = hF ts i cnt lat cl td nu sg (1, 40 :: w, o + 1, p + 1, n, cs) := hF_ok (by omega) (by
  show sT i k v 1 w o p n cs = _
  unfold sT
  rw [if_neg (by decide), if_pos ⟨h1, h2⟩, if_neg (by omega)])
theorem hF_neg (h1 : k = 3) (h2 : v = 45) (h4 : o < 4) : hF ((k, pl, v, ci) :: ts) i cnt lat cl td nu sg (1, w, o, p, n, cs) = hF ts i cnt lat cl td nu sg (1, -3 :: w, o + 1, p, n, cs) := hF_ok (by omega) (by
  show sT i k v 1 w o p n cs = _
  unfold sT
  rw [if_neg (by decide), if_neg (by omega), if_pos ⟨h1, h2⟩, if_neg (by omega)])
theorem hF_deep (h1 : k = 3) (h2 : v = 40 ∨ v = 45) (h4 : 4 ≤ o) : hF ((k, pl, v, ci) :: ts) i cnt lat cl td nu sg (1, w, o, p, n, cs) = hBad 4 pl := hF_bad (by omega) (by
  show sT i k v 1 w o p n cs = _
  unfold sT
  rw [if_neg (by decide)]
  by_cases e : v = 40
  · rw [if_pos ⟨h1, e⟩, if_pos h4]
  · rw [if_neg (by omega), if_pos (by omega), if_pos h4]) (by decide)
theorem hF_num (h1 : k = 2) (h4 : n < 12) : hF ((k, pl, v, ci) :: ts) i cnt lat cl td nu sg (1, w, o, p, n, cs) = hF ts i cnt lat cl td nu sg (0, (sM w o (v :: cs)).1, (sM w o (v :: cs)).2.1, p, n + 1, (sM w o (v :: cs)).2.2) := hF_ok (by omega) (by
  show sT i k v 1 w o p n cs = _
  unfold sT sOp
  rw [if_neg (by decide), if_neg (by omega), if_neg (by omega), if_pos h1, if_neg (by omega)])
theorem hF_let {li : Int} (h1 : k = 1) (h2 : sLi i v = li) (h3 : li ≠ -1) (h4 : n < 12) : hF ((k, pl, v, ci) :: ts) i cnt lat cl td nu sg (1, w, o, p, n, cs) = hF ts i cnt lat cl td nu sg (0, (sM w o ((-1 - li) :: cs)).1, (sM w o ((-1 - li) :: cs)).2.1, p, n + 1, (sM w o ((-1 - li) :: cs)).2.2) := hF_ok (by omega) (by
  show sT i k v 1 w o p n cs = _
  unfold sT sOp
  rw [if_neg (by decide), if_neg (by omega), if_neg (by omega), if_neg (by omega), h2, if_pos ⟨h1, h3⟩, if_neg (by omega)])
theorem hF_many (h1 : k = 2 ∨ (k = 1 ∧ sLi i v ≠ -1)) (h4 : 12 ≤ n) : hF ((k, pl, v, ci) :: ts) i cnt lat cl td nu sg (1, w, o, p, n, cs) = hBad 4 pl := hF_bad (by omega) (by
  show sT i k v 1 w o p n cs = _
  unfold sT sOp
  rw [if_neg (by decide), if_neg (by omega), if_neg (by omega)]
  by_cases e : k = 2
  · rw [if_pos e, if_pos h4]
  · rw [if_neg e, if_pos (by omega), if_pos h4]) (by decide)
theorem hF_none (h1 : k ≠ 2) (h2 : ¬ (k = 3 ∧ (v = 40 ∨ v = 45))) (h3 : ¬ (k = 1 ∧ sLi i v ≠ -1)) : hF ((k, pl, v, ci) :: ts) i cnt lat cl td nu sg (1, w, o, p, n, cs) = hBad 1 pl := hF_bad (by omega) (by
  show sT i k v 1 w o p n cs = _
  unfold sT
  rw [if_neg (by decide), if_neg (by omega), if_neg (by omega), if_neg h1, if_neg h3]) (by decide)
/-- a sign joins: what waits binds less -/
theorem hF_sign (h1 : k = 3) (h2 : xsg v ≠ 0) (h3 : (sJ (xsg v) w cs) = (w, cs)) : hF ((k, pl, v, ci) :: ts) i cnt lat cl td nu sg (0, w, o, p, n, cs) = hF ts i cnt lat cl td nu sg (1, v :: w, o, p, n, cs) := by
  have n59 : v ≠ 59 := fun e => h2 (by rw [e]; decide)
  have n41 : v ≠ 41 := fun e => h2 (by rw [e]; decide)
  exact hF_ok (by omega) (by
    show sT i k v 0 w o p n cs = _
    unfold sT
    rw [if_pos rfl, if_neg (by omega), if_pos ⟨h1, h2⟩, h3])
theorem hF_close (h1 : k = 3) (h2 : v = 41) (h3 : 0 ≤ p) : hF ((k, pl, v, ci) :: ts) i cnt lat cl td nu sg (0, 40 :: w, o + 1, p + 1, n, cs) = hF ts i cnt lat cl td nu sg (0, (sM w o cs).1, (sM w o cs).2.1, p, n, (sM w o cs).2.2) := hF_ok (by omega) (by
  show sT i k v 0 (40 :: w) (o + 1) (p + 1) n cs = _
  unfold sT
  rw [if_pos rfl, if_pos ⟨h1, h2, by omega⟩, sJ_no (by decide)]
  show (0, (0, (sM w (o + 1 - 1) cs).1, (sM w (o + 1 - 1) cs).2.1, p + 1 - 1, n, (sM w (o + 1 - 1) cs).2.2)) = _
  rw [show o + 1 - 1 = o by omega, show p + 1 - 1 = p by omega])
/-- behind an operand nothing that goes on -/
theorem hF_off (hn : ¬ (k = 3 ∧ v = 59 ∧ p = 0)) (h1 : ¬ (k = 3 ∧ v = 41 ∧ 0 < p)) (h2 : ¬ (k = 3 ∧ xsg v ≠ 0)) : hF ((k, pl, v, ci) :: ts) i cnt lat cl td nu sg (0, w, o, p, n, cs) = hBad 1 pl := hF_bad (fun h => hn ⟨h.1, h.2.1, h.2.2.2⟩) (by
  show sT i k v 0 w o p n cs = _
  unfold sT
  rw [if_pos rfl, if_neg h1, if_neg h2]) (by decide)
/-- what binds most may be joined at once -/
theorem hF_j2 (h : xsg a = 2) : hF ts i cnt lat cl td nu sg (0, a :: w, o, p, n, cs) = hF ts i cnt lat cl td nu sg (0, w, o, p, n, (-3 - a) :: cs) := by
  cases ts with
  | nil => rfl
  | cons t ts =>
    obtain ⟨k, pl, v, ci⟩ := t
    rw [hF_step, hF_step]
    have e1 : sJ 1 (a :: w) cs = sJ 1 w ((-3 - a) :: cs) := sJ_go (by omega)
    have e2 : sFin (0, a :: w, o, p, n, cs) = sFin (0, w, o, p, n, (-3 - a) :: cs) := by
      show ((0 : Int), (sJ 1 (a :: w) cs).1, o, p, n, (sJ 1 (a :: w) cs).2) = (0, (sJ 1 w ((-3 - a) :: cs)).1, o, p, n, (sJ 1 w ((-3 - a) :: cs)).2)
      rw [e1]
    have e3 : sTt i k v (0, a :: w, o, p, n, cs) = sTt i k v (0, w, o, p, n, (-3 - a) :: cs) := by
      show sT i k v 0 (a :: w) o p n cs = sT i k v 0 w o p n ((-3 - a) :: cs)
      have e4 : sJ (xsg v) (a :: w) cs = sJ (xsg v) w ((-3 - a) :: cs) := sJ_go (by have := xsg_le v; omega)
      unfold sT
      rw [if_pos rfl, if_pos rfl, e1, e4]
    rw [e2, e3]
/-- + and - may be joined when no * / % follows -/
theorem hF_j1 (h : xsg a = 1) (hv : ¬ (k = 3 ∧ xsg v = 2)) : hF ((k, pl, v, ci) :: ts) i cnt lat cl td nu sg (0, a :: w, o, p, n, cs) = hF ((k, pl, v, ci) :: ts) i cnt lat cl td nu sg (0, w, o, p, n, (-3 - a) :: cs) := by
  rw [hF_step, hF_step]
  have e1 : sJ 1 (a :: w) cs = sJ 1 w ((-3 - a) :: cs) := sJ_go (by omega)
  have e2 : sFin (0, a :: w, o, p, n, cs) = sFin (0, w, o, p, n, (-3 - a) :: cs) := by
    show ((0 : Int), (sJ 1 (a :: w) cs).1, o, p, n, (sJ 1 (a :: w) cs).2) = (0, (sJ 1 w ((-3 - a) :: cs)).1, o, p, n, (sJ 1 w ((-3 - a) :: cs)).2)
    rw [e1]
  have e3 : sTt i k v (0, a :: w, o, p, n, cs) = sTt i k v (0, w, o, p, n, (-3 - a) :: cs) := by
    show sT i k v 0 (a :: w) o p n cs = sT i k v 0 w o p n ((-3 - a) :: cs)
    unfold sT
    rw [if_pos rfl, if_pos rfl, e1]
    by_cases e : k = 3 ∧ xsg v ≠ 0
    · have e4 : sJ (xsg v) (a :: w) cs = sJ (xsg v) w ((-3 - a) :: cs) := sJ_go (by have := xsg_le v; omega)
      rw [e4]
    · rw [if_neg e, if_neg e]
  rw [e2, e3]
end HF
