/-! the teeth of a set; those that are mounted -/
def bt_tf (q : Nat) : Nat → Nat → Nat
  | 0 => fun _ => 0
  | k + 1 => if q / 2 ^ k % 2 = 0 then bt_tf q k else fun j => if j = bt_tm q k then k else bt_tf q k j
theorem bt_tfk (q : Nat) {k : Nat} : ∀ n j, j < bt_tm q k → bt_tf q (k + n) j = bt_tf q k j
  | 0, _, _ => rfl
  | n + 1, j, h => by
    have ih := bt_tfk q (k := k) n j h
    have := bt_tmmono q (k := k) n
    show (if q / 2 ^ (k + n) % 2 = 0 then bt_tf q (k + n) else fun j => if j = bt_tm q (k + n) then (k + n) else bt_tf q (k + n) j) j = _
    split
    · exact ih
    · show (if j = bt_tm q (k + n) then (k + n) else bt_tf q (k + n) j) = _
      rw [if_neg (by omega)]; exact ih
/-- a row that holds the teeth that the first n bits of a set tell -/
def mS (s : Nat) (n m : Int) (f : Nat → Int32) : Prop := m = (bt_tm s n.toNat : Int) ∧ ∀ q : Nat, (q : Int) < m → f q = Int32.ofNat (bt_tf s n.toNat q)
theorem mS.at0 {s : Nat} {n m : Int} {f : Nat → Int32} (hn : n = 0) (hm : m = 0) : mS s n m f := by
  subst hn
  subst hm
  exact ⟨rfl, fun q hq => by omega⟩
theorem mS.no {s : Nat} {n m y : Int} {f : Nat → Int32} (h : mS s n m f) (h0 : 0 ≤ n) (hb : s / 2 ^ n.toNat % 2 = 0) (hy : y = n + 1) : mS s y m f := by
  have e1 : y.toNat = n.toNat + 1 := by omega
  have e2 : bt_tm s (n.toNat + 1) = bt_tm s n.toNat + s / 2 ^ n.toNat % 2 := rfl
  have e3 : bt_tf s (n.toNat + 1) = bt_tf s n.toNat := if_pos hb
  unfold mS
  rw [e1, e2, e3, hb]
  exact h
theorem mS.yes {s : Nat} {n m m' y : Int} {f f' : Nat → Int32} {v : Int32} (h : mS s n m f) (h0 : 0 ≤ n) (h16 : n < 16) (hb : s / 2 ^ n.toNat % 2 ≠ 0) (hy : y = n + 1) (hm : m' = m + 1) (hv : v.toInt = n) (hf : f' = upd f m.toNat v) : mS s y m' f' := by
  have e1 : y.toNat = n.toNat + 1 := by omega
  have e2 : bt_tm s (n.toNat + 1) = bt_tm s n.toNat + s / 2 ^ n.toNat % 2 := rfl
  have e3 : bt_tf s (n.toNat + 1) = fun j => if j = bt_tm s n.toNat then n.toNat else bt_tf s n.toNat j := if_neg hb
  obtain ⟨h1, h2⟩ := h
  have e4 : v = Int32.ofNat n.toNat := by
    apply Int32.toInt_inj.mp
    rw [Int32.toInt_ofNat_of_lt (by omega)]
    omega
  refine ⟨by rw [e1, e2]; omega, fun q hq => ?_⟩
  rw [e1, e3, hf]
  show (if q = m.toNat then v else f q) = Int32.ofNat (if q = bt_tm s n.toNat then n.toNat else bt_tf s n.toNat q)
  by_cases e : q = m.toNat
  · rw [if_pos e, if_pos (by omega), e4]
  · rw [if_neg e, if_neg (by omega)]
    exact h2 q (by omega)
theorem mS.fin {s : Nat} {n m : Int} {f : Nat → Int32} (h : mS s n m f) (h0 : 0 ≤ n) (h16 : n ≤ 16) (hd : 16 ≤ n ∨ 4 ≤ m) (h4 : bt_tm s 16 ≤ 4) : mS s 16 m f := by
  have e := bt_tmmono s (k := n.toNat) (16 - n.toNat)
  rw [show n.toNat + (16 - n.toNat) = 16 by omega] at e
  obtain ⟨h1, h2⟩ := h
  have e5 : bt_tm s 16 = bt_tm s n.toNat := by
    rcases hd with g | g
    · rw [show n.toNat = 16 by omega]
    · omega
  refine ⟨by rw [show (16 : Int).toNat = 16 from rfl, e5]; exact h1, fun q hq => ?_⟩
  rw [h2 q hq, show (16 : Int).toNat = n.toNat + (16 - n.toNat) by omega, bt_tfk s _ q (by omega)]
/-- the class: how many teeth are mounted, which -/
def xTn (G : gS) : Int := if (G 6 6).toInt = 0 then (G 18 10).toInt else (bt_tm (G 6 6).toInt.toNat 16 : Int)
def xTr (G : gS) : Nat → Int32 := if (G 6 6).toInt = 0 then fun q => G 18 (20 + q) else fun q => Int32.ofNat (bt_tf (G 6 6).toInt.toNat 16 q)
def xTok (G : gS) : Prop := (G 6 6).toInt = 0 ∨ (0 < (G 6 6).toInt ∧ (G 6 6).toInt < 65536 ∧ bt_tm (G 6 6).toInt.toNat 16 ≤ 4)
theorem xTok.le {G : gS} (h : xTok G) (nz : (G 6 6).toInt ≠ 0) : 0 ≤ (G 6 6).toInt ∧ bt_tm (G 6 6).toInt.toNat 16 ≤ 4 := by
  rcases h with g | g
  · exact absurd g nz
  · exact ⟨by omega, g.2.2⟩
/-- the mounted teeth -/
def xMt (G G' : gS) : Prop := xTok G → (G' 6 7).toInt = xTn G ∧ ∀ q : Nat, (q : Int) < xTn G → G' 44 q = xTr G q
theorem xMt_0 {G G' : gS} (z : (G 6 6).toInt = 0) (h1 : (G' 6 7).toInt = (G 18 10).toInt) (h2 : ∀ q : Nat, (q : Int) < (G 18 10).toInt → G' 44 q = G 18 (20 + q)) : xMt G G' := fun _ => by
  unfold xTn xTr
  rw [if_pos z, if_pos z]
  exact ⟨h1, h2⟩
theorem xMt_1 {G G' : gS} (nz : (G 6 6).toInt ≠ 0) (h : xTok G → mS (G 6 6).toInt.toNat 16 (G' 6 7).toInt (G' 44)) : xMt G G' := fun hk => by
  obtain ⟨h1, h2⟩ := h hk
  unfold xTn xTr
  rw [if_neg nz, if_neg nz]
  have h3 : (G' 6 7).toInt = (bt_tm (G 6 6).toInt.toNat 16 : Int) := h1
  exact ⟨h3, fun q hq => h2 q (by omega)⟩
theorem xMt.tr {G G1 G2 : gS} (h : xMt G G1) (h1 : G2 6 7 = G1 6 7) (h2 : G2 44 = G1 44) : xMt G G2 := fun hk => by
  rw [h1, h2]
  exact h hk
theorem pfill_1 {f : Nat → Int32} {v : Int32} {x y : Int} (h0 : 0 ≤ x) (hy : y = x + 1) (h : ∀ q : Nat, (q : Int) < x → f q = v) : ∀ q : Nat, (q : Int) < y → upd f x.toNat v q = v := fun q h2 => by
  by_cases e : q = x.toNat
  · rw [show upd f x.toNat v q = v from if_pos e]
  · rw [show upd f x.toNat v q = f q from if_neg e]
    exact h q (by omega)
