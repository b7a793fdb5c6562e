/-! what a row of codes makes of two numbers -/
def eJ (s : Int) (x y : Int32) : Int32 := if s = 43 then x + y else if s = 45 then x - y else if s = 42 then x * y else if s = 47 then (if y.toInt = 0 then 0 else x / y) else (if y.toInt = 0 then 0 else x - x / y * y)
def eP (c : Int) (a b : Int32) : Int32 := if c = -1 then a else if c = -2 then b else Int32.ofInt c
theorem eP_1 {c : Int} {a b : Int32} (h : c = -1) : a = eP c a b := (if_pos h).symm
theorem eP_2 {c : Int} {a b : Int32} (h : c = -2) : b = eP c a b := by
  unfold eP
  rw [if_neg (by omega), if_pos h]
theorem eP_3 {c : Int} {a b v : Int32} (h1 : c ≠ -1) (h2 : c ≠ -2) (hv : v.toInt = c) : v = eP c a b := by
  unfold eP
  rw [if_neg h1, if_neg h2, ← hv, Int32.ofInt_toInt]
/-- the pile behind a row of codes (the latest first) -/
def eS (a b : Int32) : List Int → List Int32
  | [] => []
  | c :: cs => if -2 ≤ c then eP c a b :: eS a b cs else if c = -3 then (match eS a b cs with | [] => [] | x :: r => (-x) :: r) else (match eS a b cs with | y :: x :: r => eJ (-3 - c) x y :: r | l => l)
def eV (a b : Int32) (cs : List Int) : Int32 := (eS a b cs).headD 0
theorem eS_push {a b : Int32} {c : Int} {cs : List Int} (hc : -2 ≤ c) : eS a b (c :: cs) = eP c a b :: eS a b cs := if_pos hc
theorem eS_neg {a b x : Int32} {cs : List Int} {r : List Int32} (h : eS a b cs = x :: r) : eS a b (-3 :: cs) = (-x) :: r := by
  show (if (-2 : Int) ≤ -3 then eP (-3) a b :: eS a b cs else if (-3 : Int) = -3 then (match eS a b cs with | [] => [] | x :: r => (-x) :: r) else (match eS a b cs with | y :: x :: r => eJ (-3 - -3) x y :: r | l => l)) = _
  rw [if_neg (by decide), if_pos rfl, h]
theorem eS_join {a b x y : Int32} {c : Int} {cs : List Int} {r : List Int32} (hc : c < -3) (h : eS a b cs = y :: x :: r) : eS a b (c :: cs) = eJ (-3 - c) x y :: r := by
  show (if -2 ≤ c then eP c a b :: eS a b cs else if c = -3 then (match eS a b cs with | [] => [] | x :: r => (-x) :: r) else (match eS a b cs with | y :: x :: r => eJ (-3 - c) x y :: r | l => l)) = _
  rw [if_neg (by omega), if_neg (by omega), h]
theorem eS_len {a b : Int32} : ∀ {cs : List Int} {d : Nat}, gcD cs = some d → (∀ c : Int, c ∈ cs → gcG c) → (eS a b cs).length = d
  | [], d, h, _ => by
    have : 0 = d := Option.some.inj h
    subst this
    rfl
  | c :: cs, d, h, hg => by
    have hg' : ∀ c : Int, c ∈ cs → gcG c := fun q hq => hg q (List.mem_cons_of_mem _ hq)
    unfold gcD at h
    cases e : gcD cs with
    | none => rw [e] at h; cases h
    | some d0 =>
      rw [e] at h
      have ih := eS_len (a := a) (b := b) e hg'
      simp only at h
      by_cases h1 : -2 ≤ c
      · rw [if_pos h1] at h
        rw [eS_push h1, List.length_cons, ih]
        exact Option.some.inj h
      · rw [if_neg h1] at h
        by_cases h2 : c = -3
        · rw [if_pos h2] at h
          by_cases h3 : 1 ≤ d0
          · rw [if_pos h3] at h
            cases e2 : eS a b cs with
            | nil => rw [e2] at ih; simp at ih; omega
            | cons x r =>
              rw [h2, eS_neg e2]
              rw [e2] at ih
              simp only [List.length_cons] at ih ⊢
              rw [ih]
              exact Option.some.inj h
          · rw [if_neg h3] at h; cases h
        · rw [if_neg h2] at h
          by_cases h3 : 2 ≤ d0
          · rw [if_pos h3] at h
            cases e2 : eS a b cs with
            | nil => rw [e2] at ih; simp at ih; omega
            | cons y r =>
              cases r with
              | nil => rw [e2] at ih; simp at ih; omega
              | cons x r =>
                rw [eS_join (by omega) e2]
                rw [e2] at ih
                simp only [List.length_cons] at ih ⊢
                have := Option.some.inj h
                omega
          · rw [if_neg h3] at h; cases h
/-- a row's first numbers, the latest first -/
def skr (f : Nat → Int32) : Nat → List Int32
  | 0 => []
  | m + 1 => f m :: skr f m
theorem skr_ext {f g : Nat → Int32} : ∀ {m : Nat}, (∀ i : Nat, i < m → g i = f i) → skr g m = skr f m
  | 0, _ => rfl
  | m + 1, h => by
    show g m :: skr g m = f m :: skr f m
    rw [h m (by omega), skr_ext (fun i hi => h i (by omega))]
theorem skr_len {f : Nat → Int32} : ∀ {m : Nat}, (skr f m).length = m
  | 0 => rfl
  | m + 1 => by
    show (skr f m).length + 1 = m + 1
    rw [skr_len]
theorem skr_1 {f : Nat → Int32} {n : Int} (h : 1 ≤ n) {y : Int} (hy : y = n - 1) : skr f n.toNat = f y.toNat :: skr f y.toNat := by
  rw [hy, show n.toNat = (n - 1).toNat + 1 by omega]
  rfl
theorem tkr_nx {f : Nat → Int32} {i y : Int} (h : 0 ≤ i) (hy : y = i + 1) : tkr f y.toNat = (f i.toNat).toInt :: tkr f i.toNat := by
  rw [hy, show (i + 1).toNat = i.toNat + 1 by omega]
  rfl
theorem mkr_nx {kd vl : Nat → Int32} {w k y : Int} (h : 0 ≤ w) (hk : 80 * w ≤ k) (hy : y = k + 1) : mkr kd vl (80 * w).toNat (y - 80 * w).toNat = mEn (kd k.toNat).toInt (vl k.toNat).toInt :: mkr kd vl (80 * w).toNat (k - 80 * w).toNat := by
  rw [hy, show (k + 1 - 80 * w).toNat = (k - 80 * w).toNat + 1 by omega]
  show mEn (kd ((80 * w).toNat + (k - 80 * w).toNat)).toInt (vl ((80 * w).toNat + (k - 80 * w).toNat)).toInt :: _ = _
  rw [show (80 * w).toNat + (k - 80 * w).toNat = k.toNat by omega]
section VS
variable {a b : Int32} {f f' : Nat → Int32} {cs : List Int} {c n y z n' : Int} {v : Int32}
theorem vPush (h : skr f n.toNat = eS a b cs) (hn : 0 ≤ n) (hc : -2 ≤ c) (hf : f' = upd f n.toNat v) (hv : v = eP c a b) (hn' : n' = n + 1) : skr f' n'.toNat = eS a b (c :: cs) := by
  rw [eS_push hc, ← h, ← hv, hf, skr_1 (f := upd f n.toNat v) (n := n') (y := n) (by omega) (by omega), show upd f n.toNat v n.toNat = v from if_pos rfl, skr_ext (fun i hi => show upd f n.toNat v i = f i from if_neg (by omega))]
theorem vNeg (h : skr f n.toNat = eS a b cs) (hn : 1 ≤ n) (hf : f' = upd f y.toNat (-(f z.toNat))) (hy : y = n - 1) (hz : z = n - 1) (hc : c = -3) : skr f' n.toNat = eS a b (c :: cs) := by
  subst hy hz hc
  rw [skr_1 hn rfl] at h
  rw [eS_neg h.symm, hf, skr_1 hn rfl, show upd f (n - 1).toNat (-(f (n - 1).toNat)) (n - 1).toNat = -(f (n - 1).toNat) from if_pos rfl, skr_ext (fun i hi => show upd f (n - 1).toNat (-(f (n - 1).toNat)) i = f i from if_neg (by omega))]
theorem vJoin (h : skr f n.toNat = eS a b cs) (hn : 2 ≤ n) {y1 z1 : Int} {s : Int} (hf : f' = upd f z.toNat v) (hv : v.toInt = (eJ s (f z1.toNat) (f y1.toNat)).toInt) (hy : y = n - 1) (hy1 : y1 = n - 1) (hz : z = n - 2) (hz1 : z1 = n - 2) (hc : c < -3) (hs : s = -3 - c) : skr f' y.toNat = eS a b (c :: cs) := by
  subst hy hy1 hz hz1 hs
  rw [skr_1 (y := n - 1) (by omega) rfl, skr_1 (n := n - 1) (y := n - 2) (by omega) (by omega)] at h
  rw [eS_join hc h.symm, hf, skr_1 (n := n - 1) (y := n - 2) (by omega) (by omega), show upd f (n - 2).toNat v (n - 2).toNat = v from if_pos rfl, skr_ext (fun i hi => show upd f (n - 2).toNat v i = f i from if_neg (by omega)), Int32.toInt_inj.mp hv]
end VS
theorem gcD_tl {c : Int} {cs : List Int} {d : Nat} (h : gcD (c :: cs) = some d) : ∃ e : Nat, gcD cs = some e ∧ (-2 ≤ c ∨ (c = -3 ∧ 1 ≤ e) ∨ (c < -3 ∧ 2 ≤ e)) := by
  unfold gcD at h
  cases e : gcD cs with
  | none => rw [e] at h; cases h
  | some d0 =>
    rw [e] at h
    simp only at h
    refine ⟨d0, rfl, ?_⟩
    by_cases h1 : -2 ≤ c
    · exact Or.inl h1
    · rw [if_neg h1] at h
      by_cases h2 : c = -3
      · rw [if_pos h2] at h
        by_cases h3 : 1 ≤ d0
        · exact Or.inr (Or.inl ⟨h2, h3⟩)
        · rw [if_neg h3] at h; cases h
      · rw [if_neg h2] at h
        by_cases h3 : 2 ≤ d0
        · exact Or.inr (Or.inr ⟨by omega, h3⟩)
        · rw [if_neg h3] at h; cases h
theorem gcN_nn : ∀ {cs : List Int}, 0 ≤ gcN cs
  | [] => Int.le_refl _
  | c :: cs => by
    have h := gcN_nn (cs := cs)
    by_cases e : -2 ≤ c
    · rw [gcN_push e]; omega
    · rw [gcN_no (by omega)]; exact h
theorem gcN_tl {c : Int} {cs : List Int} : gcN cs ≤ gcN (c :: cs) := by
  by_cases e : -2 ≤ c
  · rw [gcN_push e]; omega
  · rw [gcN_no (by omega)]; exact Int.le_refl _
theorem gcD_le : ∀ {cs : List Int} {d : Nat}, gcD cs = some d → (d : Int) ≤ gcN cs
  | [], d, h => by
    have : 0 = d := Option.some.inj h
    subst this
    exact Int.le_refl _
  | c :: cs, d, h => by
    obtain ⟨e, h1, h2⟩ := gcD_tl h
    have ih := gcD_le h1
    unfold gcD at h
    rw [h1] at h
    simp only at h
    by_cases e1 : -2 ≤ c
    · rw [if_pos e1] at h
      rw [gcN_push e1]
      have := Option.some.inj h
      omega
    · rw [if_neg e1] at h
      rw [gcN_no (by omega)]
      by_cases e2 : c = -3
      · rw [if_pos e2, if_pos (by omega)] at h
        have := Option.some.inj h
        omega
      · rw [if_neg e2, if_pos (by omega)] at h
        have := Option.some.inj h
        omega
/-- good from the start on -/
def gcT (cs : List Int) : Prop := (∃ d : Nat, gcD cs = some d) ∧ gcN cs ≤ 12 ∧ ∀ c : Int, c ∈ cs → gcG c
theorem gcT.tl {c : Int} {cs : List Int} (h : gcT (c :: cs)) : gcT cs := by
  obtain ⟨⟨d, h1⟩, h2, h3⟩ := h
  obtain ⟨e, g1, -⟩ := gcD_tl h1
  exact ⟨⟨e, g1⟩, Int.le_trans gcN_tl h2, fun q hq => h3 q (List.mem_cons_of_mem _ hq)⟩
theorem gcOK.T {cs : List Int} (h : gcOK cs) : gcT cs := ⟨⟨1, h.1⟩, h.2⟩
theorem gcT.pre {f : Nat → Int32} : ∀ {m i : Nat}, i ≤ m → gcT (tkr f m) → gcT (tkr f i)
  | 0, i, hi, h => by
    obtain rfl : i = 0 := by omega
    exact h
  | m + 1, i, hi, h => by
    by_cases e : i = m + 1
    · rw [e]; exact h
    · exact gcT.pre (m := m) (by omega) (gcT.tl h)
theorem gcT.preM {kd vl : Nat → Int32} {b : Nat} : ∀ {m i : Nat}, i ≤ m → gcT (mkr kd vl b m) → gcT (mkr kd vl b i)
  | 0, i, hi, h => by
    obtain rfl : i = 0 := by omega
    exact h
  | m + 1, i, hi, h => by
    by_cases e : i = m + 1
    · rw [e]; exact h
    · exact gcT.preM (m := m) (by omega) (gcT.tl h)
section VE
variable {f row : Nat → Int32} {len i n : Int} {a b : Int32}
theorem vAt (hg : gcOK (tkr f len.toNat)) (h0 : 0 ≤ i) (hi : i < len) : gcT ((f i.toNat).toInt :: tkr f i.toNat) := by
  have h := gcT.pre (f := f) (m := len.toNat) (i := (i + 1).toNat) (by omega) hg.T
  rw [tkr_nx h0 rfl] at h
  exact h
theorem vSg {c : Int} {cs : List Int} (h : gcT (c :: cs)) (hc : c < -3) : -50 ≤ c := by
  rcases h.2.2 c List.mem_cons_self with g | g | g
  · omega
  · omega
  · have := xsg_b g; omega
theorem vLen (ev : skr row n.toNat = eS a b (tkr f i.toNat)) (h : gcT (tkr f i.toNat)) {d : Nat} (hd : gcD (tkr f i.toNat) = some d) : n.toNat = d := by
  rw [← skr_len (f := row) (m := n.toNat), ev]
  exact eS_len hd h.2.2
theorem vE1 (hg : gcOK (tkr f len.toNat)) (h0 : 0 ≤ i) (hi : i < len) (ev : skr row n.toNat = eS a b (tkr f i.toNat)) (hc : -2 ≤ (f i.toNat).toInt) (hn : 12 ≤ n) : False := by
  have h := vAt hg h0 hi
  obtain ⟨d, hd⟩ := h.tl.1
  have e := vLen ev h.tl hd
  have g := gcD_le hd
  have q := h.2.1
  rw [gcN_push hc] at q
  omega
theorem vE2 (hg : gcOK (tkr f len.toNat)) (h0 : 0 ≤ i) (hi : i < len) (ev : skr row n.toNat = eS a b (tkr f i.toNat)) (hc : (f i.toNat).toInt = -3) (hn : n < 1) : False := by
  have h := vAt hg h0 hi
  obtain ⟨d, hd⟩ := h.1
  obtain ⟨e, g1, g2⟩ := gcD_tl hd
  have q := vLen ev h.tl g1
  omega
theorem vE3 (hg : gcOK (tkr f len.toNat)) (h0 : 0 ≤ i) (hi : i < len) (ev : skr row n.toNat = eS a b (tkr f i.toNat)) (hc : (f i.toNat).toInt < -3) (hn : n < 2) : False := by
  have h := vAt hg h0 hi
  obtain ⟨d, hd⟩ := h.1
  obtain ⟨e, g1, g2⟩ := gcD_tl hd
  have q := vLen ev h.tl g1
  omega
theorem vFin (hg : gcOK (tkr f len.toNat)) (h0 : 0 ≤ n) (hi : i = len) (ev : skr row n.toNat = eS a b (tkr f i.toNat)) : n = 1 ∧ (eV a b (tkr f len.toNat)) = row 0 := by
  subst hi
  have q := vLen ev hg.T hg.1
  have e1 : n = 1 := by omega
  subst e1
  refine ⟨rfl, ?_⟩
  unfold eV
  rw [← ev]
  rfl
end VE
/-! the same of marks -/
theorem mkr_mem {kd vl : Nat → Int32} {b : Nat} : ∀ {m i : Nat}, i < m → mEn (kd (b + i)).toInt (vl (b + i)).toInt ∈ mkr kd vl b m
  | 0, i, h => absurd h (Nat.not_lt_zero _)
  | m + 1, i, h => by
    by_cases e : i = m
    · rw [e]; exact List.mem_cons_self
    · exact List.mem_cons_of_mem _ (mkr_mem (m := m) (by omega))
theorem gcG_bad : ¬ gcG (-1000000) := fun h => by
  rcases h with h | h | h
  · omega
  · omega
  · exact absurd h (by decide)
theorem mEn_at {w k : Int} {G : gS} (hg : gcOK (mL w G)) (h0 : 0 ≤ w) (hk : 80 * w ≤ k) (hk2 : k < 80 * w + (G 12 w.toNat).toInt) : gcG (mEn (G 10 k.toNat).toInt (G 11 k.toNat).toInt) := by
  have h := hg.2.2 _ (mkr_mem (kd := G 10) (vl := G 11) (b := (80 * w).toNat) (m := (G 12 w.toNat).toInt.toNat) (i := (k - 80 * w).toNat) (by omega))
  rw [show (80 * w).toNat + (k - 80 * w).toNat = k.toNat by omega] at h
  exact h
theorem mEn_k1 {x : Int} (h : gcG (mEn 1 x)) : x = 0 ∨ x = 1 := by
  unfold mEn at h
  rw [if_neg (by decide), if_pos rfl] at h
  by_cases e : x = 0
  · exact Or.inl e
  · rw [if_neg e] at h
    by_cases e2 : x = 1
    · exact Or.inr e2
    · rw [if_neg e2] at h
      exact (gcG_bad h).elim
theorem mEn_k2 {x : Int} (h : gcG (mEn 2 x)) (hx : x ≠ 33) : 1 ≤ xsg x := by
  unfold mEn at h
  rw [if_neg (by decide), if_neg (by decide), if_neg hx] at h
  by_cases e : xsg x ≠ 0
  · have := xsg_le x; omega
  · rw [if_neg e] at h
    exact (gcG_bad h).elim
section VM
variable {w k n n' y z y1 z1 : Int} {G : gS} {f f' : Nat → Int32} {a b v : Int32}
abbrev mPx (w k : Int) (G : gS) : List Int := mkr (G 10) (G 11) (80 * w).toNat (k - 80 * w).toNat
theorem mPush (hg : gcOK (mL w G)) (h0 : 0 ≤ w) (hk : 80 * w ≤ k) (hk2 : k < 80 * w + (G 12 w.toNat).toInt) (ev : skr f n.toNat = eS a b (mPx w k G)) (hn : 0 ≤ n) (hf : f' = upd f n.toNat v) (hy : y = k + 1) (hn' : n' = n + 1) (hb : 0 ≤ (G 11 k.toNat).toInt) (hv : ((G 10 k.toNat).toInt = 0 ∧ v = G 11 k.toNat) ∨ ((G 10 k.toNat).toInt = 1 ∧ (G 11 k.toNat).toInt = 0 ∧ v = a) ∨ ((G 10 k.toNat).toInt = 1 ∧ (G 11 k.toNat).toInt ≠ 0 ∧ v = b)) : skr f' n'.toNat = eS a b (mPx w y G) := by
  have h := mEn_at hg h0 hk hk2
  show _ = eS a b (mkr (G 10) (G 11) (80 * w).toNat (y - 80 * w).toNat)
  rw [mkr_nx h0 hk hy]
  rcases hv with ⟨e1, e2⟩ | ⟨e1, e2, e3⟩ | ⟨e1, e2, e3⟩
  · rw [mEn_0 e1]
    exact vPush ev hn (by omega) hf (eP_3 (by omega) (by omega) (by rw [e2])) hn'
  · rw [mEn_1 e1 (Or.inl e2)]
    exact vPush ev hn (by omega) hf (by rw [e3]; exact eP_1 (by omega)) hn'
  · rw [e1] at h
    have q := mEn_k1 h
    rw [mEn_1 e1 q]
    exact vPush ev hn (by omega) hf (by rw [e3]; exact eP_2 (by omega)) hn'
theorem mNeg (h0 : 0 ≤ w) (hk : 80 * w ≤ k) (ev : skr f n.toNat = eS a b (mPx w k G)) (hn : 1 ≤ n) (hf : f' = upd f y1.toNat (-(f z1.toNat))) (hy1 : y1 = n - 1) (hz1 : z1 = n - 1) (hy : y = k + 1) (e1 : (G 10 k.toNat).toInt = 2) (e2 : (G 11 k.toNat).toInt = 33) : skr f' n.toNat = eS a b (mPx w y G) := by
  show _ = eS a b (mkr (G 10) (G 11) (80 * w).toNat (y - 80 * w).toNat)
  rw [mkr_nx h0 hk hy, mEn_3 e1 e2]
  exact vNeg ev hn hf hy1 hz1 rfl
theorem mJoin (hg : gcOK (mL w G)) (h0 : 0 ≤ w) (hk : 80 * w ≤ k) (hk2 : k < 80 * w + (G 12 w.toNat).toInt) (ev : skr f n.toNat = eS a b (mPx w k G)) (hn : 2 ≤ n) {s : Int} (hf : f' = upd f z.toNat v) (hv : v.toInt = (eJ s (f z1.toNat) (f y1.toNat)).toInt) (hn' : n' = n - 1) (hy1 : y1 = n - 1) (hz : z = n - 2) (hz1 : z1 = n - 2) (hy : y = k + 1) (e1 : (G 10 k.toNat).toInt = 2) (e2 : (G 11 k.toNat).toInt ≠ 33) (hs : s = (G 11 k.toNat).toInt) : skr f' n'.toNat = eS a b (mPx w y G) := by
  have h := mEn_at hg h0 hk hk2
  rw [e1] at h
  have q := mEn_k2 h e2
  have q2 := xsg_b q
  show _ = eS a b (mkr (G 10) (G 11) (80 * w).toNat (y - 80 * w).toNat)
  rw [mkr_nx h0 hk hy, mEn_2 (n := xsg (G 11 k.toNat).toInt) e1 e2 rfl (by omega)]
  exact vJoin ev hn hf hv hn' hy1 hz hz1 (by omega) (by omega)
theorem mFin (hg : gcOK (mL w G)) (h0 : 0 ≤ w) (hk : k = 80 * w + (G 12 w.toNat).toInt) (hm : 0 ≤ (G 12 w.toNat).toInt) (ev : skr f n.toNat = eS a b (mPx w k G)) : eV a b (mL w G) = f 0 := by
  have e : mPx w k G = mL w G := by
    unfold mL
    show mkr (G 10) (G 11) (80 * w).toNat (k - 80 * w).toNat = _
    rw [hk, show 80 * w + (G 12 w.toNat).toInt - 80 * w = (G 12 w.toNat).toInt by omega]
  rw [e] at ev
  have q : n.toNat = 1 := by
    rw [← skr_len (f := f) (m := n.toNat), ev]
    exact eS_len hg.1 hg.2.2
  unfold eV
  rw [← ev, q]
  rfl
end VM
