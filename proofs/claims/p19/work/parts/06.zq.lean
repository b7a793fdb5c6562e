/-! plans: the key of a row is a thousand times its time, and its passes; -1: none -/
def plO (P : Int → Int → Prop) (T : Int → Int) (t : Nat → Int) (u : Nat) (v : Int) : Prop := ∃ (s : Int) (f : Nat), 1 ≤ s ∧ s ≤ 9 ∧ 1 ≤ f ∧ f ≤ 20 ∧ f ≤ u ∧ P s (f : Int) ∧ t (u - f) ≠ -1 ∧ v = 1000 * T s + 1 + t (u - f)
def plK (P : Int → Int → Prop) (T : Int → Int) (t : Nat → Int) (n : Nat) : Prop := t 0 = 0 ∧ ∀ u : Nat, 1 ≤ u → u ≤ n → (t u = -1 ∧ ∀ v : Int, ¬ plO P T t u v) ∨ (t u ≠ -1 ∧ plO P T t u (t u) ∧ ∀ v : Int, plO P T t u v → t u ≤ v)
/-- the class: one speed a feed, the feeds up to k -/
def clO (S : Nat → Int) (T : Int → Int) (t : Nat → Int) (k u : Nat) (v : Int) : Prop := ∃ f : Nat, 1 ≤ f ∧ f ≤ k ∧ f ≤ u ∧ S f ≠ 0 ∧ t (u - f) ≠ -1 ∧ v = 1000 * T (S f) + 1 + t (u - f)
def clA (S : Nat → Int) (T : Int → Int) (t : Nat → Int) (k u : Nat) : Prop := (t u = -1 ∧ ∀ v : Int, ¬ clO S T t k u v) ∨ (t u ≠ -1 ∧ clO S T t k u (t u) ∧ ∀ v : Int, clO S T t k u v → t u ≤ v)
def clK (S : Nat → Int) (T : Int → Int) (t : Nat → Int) (k n : Nat) : Prop := t 0 = 0 ∧ ∀ u : Nat, 1 ≤ u → u ≤ n → clA S T t k u
/-- below m the feed k is in -/
def clM (S : Nat → Int) (T : Int → Int) (t0 t : Nat → Int) (k m n : Nat) : Prop := clK S T t0 (k - 1) n ∧ t 0 = 0 ∧ (∀ u : Nat, 1 ≤ u → u < m → u ≤ n → clA S T t k u ∧ (t u = t0 u ∨ (k ≤ u ∧ t (u - k) ≠ -1 ∧ t u = 1000 * T (S k) + 1 + t (u - k))) ∧ (t0 u ≠ -1 → t u ≠ -1 ∧ t u ≤ t0 u)) ∧ ∀ u : Nat, m ≤ u → t u = t0 u
section PL
variable {P P' : Int → Int → Prop} {T : Int → Int} {S : Nat → Int} {t t0 t' : Nat → Int} {k m n : Nat} {w : Int}
theorem plO.eq {u : Nat} {v : Int} (e : ∀ x : Nat, x < u → t x = t' x) (h : plO P T t u v) : plO P T t' u v := by
  obtain ⟨s, f, h1, h2, h3, h4, h5, h6, h7, h8⟩ := h
  have q := e (u - f) (by omega)
  exact ⟨s, f, h1, h2, h3, h4, h5, h6, by rw [← q]; exact h7, by rw [← q]; exact h8⟩
theorem plK.uniq (h : plK P T t n) (g : plK P T t' n) : ∀ u : Nat, u ≤ n → t u = t' u := by
  have go : ∀ N u : Nat, u ≤ N → u ≤ n → t u = t' u := by
    intro N
    induction N with
    | zero =>
      intro u h1 _
      obtain rfl : u = 0 := by omega
      exact h.1.trans g.1.symm
    | succ N ih =>
      intro u h1 h2
      by_cases c : u ≤ N
      · exact ih u c h2
      · have e : ∀ x : Nat, x < u → t x = t' x := fun x hx => ih x (by omega) (by omega)
        rcases h.2 u (by omega) h2 with ⟨a1, a2⟩ | ⟨a1, a2, a3⟩ <;> rcases g.2 u (by omega) h2 with ⟨b1, b2⟩ | ⟨b1, b2, b3⟩
        · omega
        · exact absurd (b2.eq fun x hx => (e x hx).symm) (a2 _)
        · exact absurd (a2.eq e) (b2 _)
        · have c1 := a3 _ (b2.eq fun x hx => (e x hx).symm)
          have c2 := b3 _ (a2.eq e)
          omega
  exact fun u hu => go u u (Nat.le_refl _) hu
theorem plK.to (e : ∀ s f : Int, P s f ↔ P' s f) (h : plK P T t n) : plK P' T t n := by
  have e2 : P = P' := funext fun x => funext fun y => propext (e x y)
  rw [← e2]
  exact h
theorem clK.k0 (h0 : t 0 = 0) (h : ∀ u : Nat, 1 ≤ u → u ≤ n → t u = -1) : clK S T t 0 n := ⟨h0, fun u h1 h2 => Or.inl ⟨h u h1 h2, fun v hv => by
  obtain ⟨f, f1, f2, _⟩ := hv
  omega⟩⟩
theorem clO.up {u : Nat} {v : Int} (hk : k ≠ 0) (hn : S k = 0 ∨ u < k) : clO S T t k u v ↔ clO S T t (k - 1) u v := by
  constructor
  · rintro ⟨f, f1, f2, f3, f4, f5, f6⟩
    refine ⟨f, f1, ?_, f3, f4, f5, f6⟩
    rcases (show f ≤ k - 1 ∨ f = k by omega) with c | c
    · exact c
    · subst c
      rcases hn with d | d
      · exact absurd d f4
      · omega
  · rintro ⟨f, f1, f2, f3, f4, f5, f6⟩
    exact ⟨f, f1, by omega, f3, f4, f5, f6⟩
theorem clA.up {u : Nat} (hk : k ≠ 0) (hn : S k = 0 ∨ u < k) (h : clA S T t (k - 1) u) : clA S T t k u := by
  rcases h with ⟨a1, a2⟩ | ⟨a1, a2, a3⟩
  · exact Or.inl ⟨a1, fun v hv => a2 v ((clO.up hk hn).mp hv)⟩
  · exact Or.inr ⟨a1, (clO.up hk hn).mpr a2, fun v hv => a3 v ((clO.up hk hn).mp hv)⟩
/-- a feed with no speed -/
theorem clK.skip (h : clK S T t (k - 1) n) (hk : k ≠ 0) (hs : S k = 0) : clK S T t k n := ⟨h.1, fun u h1 h2 => (h.2 u h1 h2).up hk (Or.inl hs)⟩
theorem clM.at0 (h : clK S T t (k - 1) n) (hk : k ≠ 0) : clM S T t t k k n := ⟨h, h.1, fun u h1 h2 h3 => ⟨(h.2 u h1 h3).up hk (Or.inr h2), Or.inl rfl, fun q => ⟨q, Int.le_refl _⟩⟩, fun _ _ => rfl⟩
theorem clM.fin (h : clM S T t0 t k m n) (hm : n < m) : clK S T t k n := ⟨h.2.1, fun u h1 h2 => (h.2.2.1 u h1 (by omega) h2).1⟩
theorem clO.eq {u : Nat} {v : Int} (e : ∀ x : Nat, x < u → t x = t' x) (h : clO S T t k u v) : clO S T t' k u v := by
  obtain ⟨f, h1, h2, h3, h4, h5, h6⟩ := h
  have q := e (u - f) (by omega)
  exact ⟨f, h1, h2, h3, h4, by rw [← q]; exact h5, by rw [← q]; exact h6⟩
theorem clA.eq {u : Nat} (e : ∀ x : Nat, x ≤ u → t x = t' x) (h : clA S T t k u) : clA S T t' k u := by
  have q := e u (Nat.le_refl _)
  have e2 : ∀ x : Nat, x < u → t x = t' x := fun x hx => e x (by omega)
  have e3 : ∀ x : Nat, x < u → t' x = t x := fun x hx => (e2 x hx).symm
  rcases h with ⟨a1, a2⟩ | ⟨a1, a2, a3⟩
  · exact Or.inl ⟨by omega, fun v hv => a2 v (hv.eq e3)⟩
  · exact Or.inr ⟨by omega, by rw [← q]; exact a2.eq e2, fun v hv => by rw [← q]; exact a3 v (hv.eq e3)⟩
/-- the next depth -/
theorem clM.go (h : clM S T t0 t k m n) (hk : 1 ≤ k) (hm : k ≤ m) (hn : m ≤ n) (hs : S k ≠ 0) (hw : (t (m - k) = -1 ∧ w = t m) ∨ (t (m - k) ≠ -1 ∧ ((t m = -1 ∧ w = 1000 * T (S k) + 1 + t (m - k)) ∨ (t m ≠ -1 ∧ t m ≤ 1000 * T (S k) + 1 + t (m - k) ∧ w = t m) ∨ (t m ≠ -1 ∧ 1000 * T (S k) + 1 + t (m - k) < t m ∧ w = 1000 * T (S k) + 1 + t (m - k))))) (hv : t (m - k) ≠ -1 → 1000 * T (S k) + 1 + t (m - k) ≠ -1) (ht : ∀ x : Nat, t' x = if x = m then w else t x) : clM S T t0 t' k (m + 1) n := by
  obtain ⟨h0, hz, hl, hh⟩ := h
  have tm : t' m = w := by rw [ht, if_pos rfl]
  have tn : ∀ x : Nat, x ≠ m → t' x = t x := fun x hx => by rw [ht, if_neg hx]
  have em : t m = t0 m := hh m (Nat.le_refl _)
  refine ⟨h0, by rw [tn 0 (by omega)]; exact hz, fun u h1 h2 h3 => ?_, fun u hu => by rw [tn u (by omega)]; exact hh u (by omega)⟩
  by_cases c : u < m
  · obtain ⟨a1, a2, a3⟩ := hl u h1 c h3
    have e : ∀ x : Nat, x ≤ u → t x = t' x := fun x hx => (tn x (by omega)).symm
    exact ⟨a1.eq e, by rw [tn u (by omega), tn (u - k) (by omega)]; exact a2, by rw [tn u (by omega)]; exact a3⟩
  · obtain rfl : u = m := by omega
    rw [tm, tn (u - k) (by omega)]
    have le0 : t0 u ≠ -1 → w ≠ -1 ∧ w ≤ t0 u := fun q => by omega
    -- none of the feeds leads below w
    have opt : ∀ v : Int, clO S T t' k u v → w ≠ -1 ∧ w ≤ v := by
      rintro v ⟨f, f1, f2, f3, f4, f5, f6⟩
      rw [tn (u - f) (by omega)] at f5 f6
      by_cases cf : f = k
      · subst cf
        omega
      · -- the value at u - f: as before, or with the feed k
        have base : t0 (u - f) ≠ -1 → t0 (u - f) ≤ t (u - f) → w ≠ -1 ∧ w ≤ v := fun q1 q2 => by
          rcases h0.2 u h1 h3 with ⟨b1, b2⟩ | ⟨b1, b2, b3⟩
          · exact absurd ⟨f, f1, by omega, f3, f4, q1, rfl⟩ (b2 (1000 * T (S f) + 1 + t0 (u - f)))
          · have b4 := b3 _ ⟨f, f1, by omega, f3, f4, q1, rfl⟩
            have b5 := le0 b1
            omega
        by_cases c0 : u - f = 0
        · exact base (by rw [c0, h0.1]; omega) (by rw [c0, h0.1, hz]; omega)
        · obtain ⟨a1, a2, a3⟩ := hl (u - f) (by omega) (by omega) (by omega)
          rcases a2 with a2 | ⟨a4, a5, a6⟩
          · exact base (by rw [← a2]; exact f5) (by omega)
          · -- first the feed k at u, then f
            have e1 : u - f - k = u - k - f := by omega
            have k1 : t (u - k) ≠ -1 ∧ t (u - k) ≤ 1000 * T (S f) + 1 + t (u - k - f) := by
              obtain ⟨d1, -, -⟩ := hl (u - k) (by omega) (by omega) (by omega)
              have o : clO S T t k (u - k) (1000 * T (S f) + 1 + t (u - k - f)) := ⟨f, f1, f2, by omega, f4, by rw [← e1]; exact a5, rfl⟩
              rcases d1 with ⟨d2, d3⟩ | ⟨d2, d3, d4⟩
              · exact absurd o (d3 _)
              · exact ⟨d2, d4 _ o⟩
            rw [e1] at a6
            have k2 := hv k1.1
            omega
    refine ⟨?_, ?_, le0⟩
    · by_cases cw : w = -1
      · exact Or.inl ⟨by rw [tm]; exact cw, fun v hv2 => (opt v hv2).1 cw⟩
      · refine Or.inr ⟨by rw [tm]; exact cw, ?_, fun v hv2 => by rw [tm]; exact (opt v hv2).2⟩
        rw [tm]
        by_cases q : t (u - k) ≠ -1 ∧ w = 1000 * T (S k) + 1 + t (u - k)
        · exact ⟨k, hk, Nat.le_refl _, hm, hs, by rw [tn (u - k) (by omega)]; exact q.1, by rw [tn (u - k) (by omega)]; exact q.2⟩
        · have ew : w = t0 u := by omega
          rcases h0.2 u h1 h3 with ⟨b1, b2⟩ | ⟨b1, ⟨f, f1, f2, f3, f4, f5, f6⟩, b3⟩
          · omega
          · have low : t' (u - f) ≠ -1 ∧ t' (u - f) ≤ t0 (u - f) := by
              rw [tn (u - f) (by omega)]
              by_cases c0 : u - f = 0
              · rw [c0, h0.1, hz]
                omega
              · exact (hl (u - f) (by omega) (by omega) (by omega)).2.2 f5
            have o := opt _ ⟨f, f1, by omega, f3, f4, low.1, rfl⟩
            exact ⟨f, f1, by omega, f3, f4, low.1, by omega⟩
    · rcases hw with ⟨w1, w2⟩ | ⟨w1, w2 | w2 | w2⟩
      · exact Or.inl (by omega)
      · exact Or.inr ⟨hm, w1, w2.2⟩
      · exact Or.inl (by omega)
      · exact Or.inr ⟨hm, w1, w2.2.2⟩
/-- of each feed the least speed that is quiet -/
def clS (P : Int → Int → Prop) (S : Nat → Int) (n : Nat) : Prop := ∀ f : Nat, 1 ≤ f → f ≤ 20 → f ≤ n → (S f = 0 ∧ ∀ s : Int, 1 ≤ s → s ≤ 9 → ¬ P s (f : Int)) ∨ (1 ≤ S f ∧ S f ≤ 9 ∧ P (S f) (f : Int) ∧ ∀ s : Int, 1 ≤ s → s < S f → ¬ P s (f : Int))
theorem clK.plK (h : clK S T t 20 n) (hS : clS P S n) (hT : ∀ a b : Int, 1 ≤ a → a < b → b ≤ 9 → T a < T b) : plK P T t n := by
  refine ⟨h.1, fun u h1 h2 => ?_⟩
  have low : ∀ v : Int, plO P T t u v → ∃ v' : Int, v' ≤ v ∧ clO S T t 20 u v' := by
    rintro v ⟨s, f, a1, a2, a3, a4, a5, a6, a7, a8⟩
    rcases hS f a3 a4 (by omega) with ⟨b1, b2⟩ | ⟨b1, b2, b3, b4⟩
    · exact absurd a6 (b2 s a1 a2)
    · refine ⟨1000 * T (S f) + 1 + t (u - f), ?_, f, a3, a4, a5, by omega, a7, rfl⟩
      rcases (show S f < s ∨ S f = s ∨ s < S f by omega) with c | c | c
      · have d := hT _ _ b1 c a2
        omega
      · rw [c]
        omega
      · exact absurd a6 (b4 s a1 c)
  rcases h.2 u h1 h2 with ⟨a1, a2⟩ | ⟨a1, ⟨f, f1, f2, f3, f4, f5, f6⟩, a3⟩
  · refine Or.inl ⟨a1, fun v hv => ?_⟩
    obtain ⟨v', -, b⟩ := low v hv
    exact a2 v' b
  · refine Or.inr ⟨a1, ?_, fun v hv => ?_⟩
    · rcases hS f f1 f2 (by omega) with ⟨b1, b2⟩ | ⟨b1, b2, b3, b4⟩
      · exact absurd b1 f4
      · exact ⟨S f, f, b1, b2, f1, f2, f3, b3, f5, f6⟩
    · obtain ⟨v', b1, b2⟩ := low v hv
      have b3 := a3 v' b2
      omega
end PL
/-- a row to the depth u may begin so: the speed and the feed that a number tells -/
def plF (m : Int) : Int := (m - 1) % 20 + 1
def plOn (P : Int → Int → Prop) (T : Int → Int) (t : Nat → Int) (u m : Int) : Prop := 21 ≤ m ∧ m ≤ 200 ∧ plF m ≤ u ∧ P ((m - 1) / 20) (plF m) ∧ t (u - plF m).toNat ≠ -1 ∧ 1000 * T ((m - 1) / 20) + 1 + t (u - plF m).toNat = t u.toNat
def plL (P : Int → Int → Prop) (T : Int → Int) (t : Nat → Int) (u m : Int) : Prop := plOn P T t u m ∧ ∀ m' : Int, plOn P T t u m' → m ≤ m'
/-- what is open behind the first j of a row -/
def plD (u : Int) (row : Nat → Int32) : Nat → Int
  | 0 => u
  | j + 1 => plD u row j - plF (row j).toInt
def plW (P : Int → Int → Prop) (T : Int → Int) (t : Nat → Int) (u : Int) (many : Nat) (row : Nat → Int32) : Prop := (∀ j : Nat, j < many → 1 ≤ plD u row j ∧ plL P T t (plD u row j) (row j).toInt) ∧ plD u row many = 0
section PW
variable {P P' : Int → Int → Prop} {T : Int → Int} {t t' : Nat → Int} {u m : Int} {n : Nat} {row row' : Nat → Int32}
theorem plF_b : 1 ≤ plF m ∧ plF m ≤ 20 := by
  unfold plF
  omega
theorem plOn.to (e : ∀ x : Nat, (x : Int) ≤ u → t x = t' x) (h0 : 0 ≤ u) (h : plOn P T t u m) : plOn P T t' u m := by
  obtain ⟨h1, h2, h3, h4, h5, h6⟩ := h
  have b := plF_b (m := m)
  have e1 := e (u - plF m).toNat (by omega)
  have e2 := e u.toNat (by omega)
  exact ⟨h1, h2, h3, h4, by rw [← e1]; exact h5, by rw [← e1, ← e2]; exact h6⟩
theorem plL.uniq {m' : Int} (h : plL P T t u m) (g : plL P T t u m') : m = m' := by
  have a := h.2 _ g.1
  have b := g.2 _ h.1
  omega
theorem plL.to (e : ∀ x : Nat, (x : Int) ≤ u → t x = t' x) (h0 : 0 ≤ u) (h : plL P T t u m) : plL P T t' u m := ⟨h.1.to e h0, fun m' g => h.2 m' (g.to (fun x hx => (e x hx).symm) h0)⟩
theorem plD_eq {j : Nat} (e : ∀ k : Nat, k < j → row k = row' k) : plD u row j = plD u row' j := by
  induction j with
  | zero => rfl
  | succ j ih =>
    show plD u row j - plF (row j).toInt = plD u row' j - plF (row' j).toInt
    rw [ih (fun k hk => e k (by omega)), e j (by omega)]
theorem plD_le {j : Nat} : plD u row j ≤ u := by
  induction j with
  | zero => exact Int.le_refl _
  | succ j ih =>
    show plD u row j - plF (row j).toInt ≤ u
    have b := plF_b (m := (row j).toInt)
    omega
theorem plW.uniq {a b : Nat} (e : ∀ x : Nat, (x : Int) ≤ u → t x = t' x) (h : plW P T t u a row) (g : plW P T t' u b row') : a = b ∧ ∀ k : Nat, k < a → row k = row' k := by
  have go : ∀ j : Nat, j ≤ a → j ≤ b → ∀ k : Nat, k < j → row k = row' k := by
    intro j
    induction j with
    | zero => exact fun _ _ k hk => by omega
    | succ j ih =>
      intro h1 h2 k hk
      have i := ih (by omega) (by omega)
      by_cases c : k < j
      · exact i k c
      · obtain rfl : k = j := by omega
        have d := plD_eq (u := u) i
        obtain ⟨a1, a2⟩ := h.1 k (by omega)
        obtain ⟨b1, b2⟩ := g.1 k (by omega)
        have l := plD_le (u := u) (row := row) (j := k)
        rw [← d] at b2
        exact Int32.toInt_inj.mp ((a2.to (fun x hx => e x (by omega)) (by omega)).uniq b2)
  rcases (show a < b ∨ a = b ∨ b < a by omega) with c | c | c
  · have d := plD_eq (u := u) (go a (Nat.le_refl _) (by omega))
    have k := (g.1 a c).1
    rw [← d, h.2] at k
    omega
  · exact ⟨c, go a (Nat.le_refl _) (by omega)⟩
  · have d := plD_eq (u := u) (go b (by omega) (Nat.le_refl _))
    have k := (h.1 b c).1
    rw [d, g.2] at k
    omega
/-- where there is a row there is a number to begin with -/
theorem plK.on (h : plK P T t n) (h1 : 1 ≤ u) (h2 : u ≤ (n : Int)) (h3 : t u.toNat ≠ -1) : ∃ m : Int, plOn P T t u m := by
  rcases h.2 u.toNat (by omega) (by omega) with ⟨a1, a2⟩ | ⟨a1, ⟨s, f, b1, b2, b3, b4, b5, b6, b7, b8⟩, a3⟩
  · exact absurd a1 h3
  · have e1 : plF (20 * s + f) = (f : Int) := by unfold plF; omega
    have e2 : (20 * s + f - 1) / 20 = s := by omega
    refine ⟨20 * s + f, by omega, by omega, by rw [e1]; omega, by rw [e1, e2]; exact b6, ?_, ?_⟩
    · rw [e1, show (u - (f : Int)).toNat = u.toNat - f by omega]
      exact b7
    · rw [e1, e2, show (u - (f : Int)).toNat = u.toNat - f by omega]
      exact b8.symm
end PW
/-! the class's rows of times and passes -/
def clT (a b : Nat → Int32) : Nat → Int := fun u => if (a u).toInt = -1 then -1 else 1000 * (a u).toInt + (b u).toInt
def clB (a b : Nat → Int32) (n : Nat) : Prop := ∀ u : Nat, u ≤ n → (a u).toInt = -1 ∨ (0 ≤ (a u).toInt ∧ (a u).toInt ≤ 3456 * (u : Int) ∧ 0 ≤ (b u).toInt ∧ (b u).toInt ≤ (u : Int))
theorem clT_v {a b : Nat → Int32} {u : Nat} : ((a u).toInt = -1 ∧ clT a b u = -1) ∨ ((a u).toInt ≠ -1 ∧ clT a b u = 1000 * (a u).toInt + (b u).toInt) := by
  unfold clT
  by_cases c : (a u).toInt = -1
  · exact Or.inl ⟨c, if_pos c⟩
  · exact Or.inr ⟨c, if_neg c⟩
section CL
variable {S : Nat → Int} {T : Int → Int} {t0 : Nat → Int} {a b a' b' : Nat → Int32} {k m n : Nat} {pt : Int}
/-- a depth that the feed leaves as it was -/
theorem cl_no (h : clM S T t0 (clT a b) k m n) (hB : clB a b n) (hk : 1 ≤ k) (hm : k ≤ m) (hn : m ≤ n) (n4 : n ≤ 400) (hs : S k ≠ 0) (hp : T (S k) = pt) (p0 : 0 ≤ pt) (hc : (a (m - k)).toInt = -1 ∨ ((a (m - k)).toInt ≠ -1 ∧ (a m).toInt ≠ -1 ∧ ((a m).toInt < (a (m - k)).toInt + pt ∨ ((a m).toInt = (a (m - k)).toInt + pt ∧ (b m).toInt ≤ (b (m - k)).toInt + 1)))) : clM S T t0 (clT a b) k (m + 1) n := by
  have v1 := clT_v (a := a) (b := b) (u := m)
  have v2 := clT_v (a := a) (b := b) (u := m - k)
  have b1 := hB m hn
  have b2 := hB (m - k) (by omega)
  refine h.go (w := clT a b m) hk hm hn hs ?_ (fun q => by rw [hp]; omega) (fun x => ?_)
  · rw [hp]
    omega
  · by_cases e : x = m
    · rw [if_pos e, e]
    · rw [if_neg e]
/-- a depth that becomes less -/
theorem cl_yes (h : clM S T t0 (clT a b) k m n) (hB : clB a b n) (hk : 1 ≤ k) (hm : k ≤ m) (hn : m ≤ n) (n4 : n ≤ 400) (hs : S k ≠ 0) (hp : T (S k) = pt) (p0 : 0 ≤ pt) (p1 : pt ≤ 3456) (hc : (a (m - k)).toInt ≠ -1) (hd : (a m).toInt = -1 ∨ (a (m - k)).toInt + pt < (a m).toInt ∨ ((a m).toInt = (a (m - k)).toInt + pt ∧ (b (m - k)).toInt + 1 < (b m).toInt)) {va vb : Int32} (hva : va.toInt = (a (m - k)).toInt + pt) (hvb : vb.toInt = (b (m - k)).toInt + 1) (ha : a' = upd a m va) (hb : b' = upd b m vb) : clM S T t0 (clT a' b') k (m + 1) n ∧ clB a' b' n := by
  have v1 := clT_v (a := a) (b := b) (u := m)
  have v2 := clT_v (a := a) (b := b) (u := m - k)
  have b1 := hB m hn
  have b2 := hB (m - k) (by omega)
  have am : ∀ x : Nat, (x = m ∧ a' x = va ∧ b' x = vb) ∨ (x ≠ m ∧ a' x = a x ∧ b' x = b x) := fun x => by
    rw [ha, hb]
    unfold upd
    by_cases e : x = m
    · exact Or.inl ⟨e, if_pos e, if_pos e⟩
    · exact Or.inr ⟨e, if_neg e, if_neg e⟩
  refine ⟨h.go (w := 1000 * T (S k) + 1 + clT a b (m - k)) hk hm hn hs ?_ (fun q => by rw [hp]; omega) (fun x => ?_), fun u hu => ?_⟩
  · rw [hp]
    omega
  · have v3 := clT_v (a := a') (b := b') (u := x)
    have v4 := clT_v (a := a) (b := b) (u := x)
    rcases am x with ⟨e1, e2, e3⟩ | ⟨e1, e2, e3⟩
    · rw [if_pos e1, hp]
      rw [e2, e3] at v3
      omega
    · rw [if_neg e1]
      rw [e2, e3] at v3
      omega
  · rcases am u with ⟨e1, e2, e3⟩ | ⟨e1, e2, e3⟩
    · rw [e2, e3]
      omega
    · rw [e2, e3]
      exact hB u hu
theorem cl_0 (h0 : (a 0).toInt = 0) (h1 : (b 0).toInt = 0) (h : ∀ u : Nat, 1 ≤ u → u ≤ n → (a u).toInt = -1) : clK S T (clT a b) 0 n ∧ clB a b n := by
  refine ⟨clK.k0 ?_ (fun u a1 a2 => ?_), fun u hu => ?_⟩
  · have v := clT_v (a := a) (b := b) (u := 0)
    omega
  · have v := clT_v (a := a) (b := b) (u := u)
    have q := h u a1 a2
    omega
  · by_cases e : u = 0
    · subst e
      exact Or.inr (by omega)
    · exact Or.inl (h u (by omega) hu)
end CL
section CO
variable {P : Int → Int → Prop} {S : Nat → Int} {T : Int → Int} {t : Nat → Int} {n : Nat} {u m : Int}
/-- a number that a row may begin with has the feed's own speed -/
theorem cl_on (h : plK P T t n) (hS : clS P S n) (hT : ∀ a b : Int, 1 ≤ a → a < b → b ≤ 9 → T a < T b) (h1 : 1 ≤ u) (h2 : u ≤ (n : Int)) (o : plOn P T t u m) : S (plF m).toNat = (m - 1) / 20 := by
  obtain ⟨o1, o2, o3, o4, o5, o6⟩ := o
  have b := plF_b (m := m)
  have e : m = 20 * ((m - 1) / 20) + plF m := by unfold plF; omega
  have s1 : 1 ≤ (m - 1) / 20 ∧ (m - 1) / 20 ≤ 9 := by omega
  have ef : (((plF m).toNat : Nat) : Int) = plF m := by omega
  have l := hS (plF m).toNat (by omega) (by omega) (by omega)
  rw [ef] at l
  rcases l with ⟨a1, a2⟩ | ⟨a1, a2, a3, a4⟩
  · exact absurd o4 (a2 _ s1.1 s1.2)
  · rcases (show S (plF m).toNat < (m - 1) / 20 ∨ S (plF m).toNat = (m - 1) / 20 ∨ (m - 1) / 20 < S (plF m).toNat by omega) with c | c | c
    · have d := hT _ _ a1 c s1.2
      have eu : u.toNat - (plF m).toNat = (u - plF m).toNat := by omega
      have op : plO P T t u.toNat (1000 * T (S (plF m).toNat) + 1 + t (u - plF m).toNat) := ⟨S (plF m).toNat, (plF m).toNat, a1, a2, by omega, by omega, by omega, by rw [ef]; exact a3, by rw [eu]; exact o5, by rw [eu]⟩
      rcases h.2 u.toNat (by omega) (by omega) with ⟨q1, q2⟩ | ⟨q1, q2, q3⟩
      · exact absurd op (q2 _)
      · have q4 := q3 _ op
        omega
    · exact c
    · exact absurd o4 (a4 _ s1.1 c)
/-- the least so far among the feeds below f -/
def clL (P : Int → Int → Prop) (T : Int → Int) (t : Nat → Int) (u f x : Int) : Prop := (x = -1 ∧ ∀ m : Int, plOn P T t u m → ¬ plF m < f) ∨ (plOn P T t u x ∧ ∀ m : Int, plOn P T t u m → plF m < f → x ≤ m)
theorem clL.fin {f x : Int} (h : clL P T t u f x) (hf : 20 < f ∨ u < f) (ho : ∃ m : Int, plOn P T t u m) : plL P T t u x := by
  have k : ∀ m : Int, plOn P T t u m → plF m < f := fun m o => by
    have b := plF_b (m := m)
    have c := o.2.2.1
    omega
  rcases h with ⟨h1, h2⟩ | ⟨h1, h2⟩
  · obtain ⟨m, o⟩ := ho
    exact absurd (k m o) (h2 m o)
  · exact ⟨h1, fun m o => h2 m o (k m o)⟩
/-- one feed more: c is its number, if a row may begin with it -/
theorem clL.go {f y x x' c s : Int} (h : clL P T t u f x) (hy : y = f + 1) (hs : ∀ m : Int, plOn P T t u m → plF m = f → (m - 1) / 20 = s) (hc : c = 20 * s + f) (f1 : 1 ≤ f) (f2 : f ≤ 20) (h' : (¬ plOn P T t u c ∧ x' = x) ∨ (plOn P T t u c ∧ ((x = -1 ∧ x' = c) ∨ (x ≠ -1 ∧ c < x ∧ x' = c) ∨ (x ≠ -1 ∧ x ≤ c ∧ x' = x)))) : clL P T t u y x' := by
  have ec : ∀ m : Int, plOn P T t u m → plF m = f → m = c := fun m o e => by
    have q := hs m o e
    unfold plF at e
    omega
  have nn : ∀ m : Int, plOn P T t u m → m ≠ -1 := fun m o => by
    have q := o.1
    omega
  rcases h' with ⟨a1, a2⟩ | ⟨a1, a2⟩
  · rw [a2]
    rcases h with ⟨h1, h2⟩ | ⟨h1, h2⟩
    · refine Or.inl ⟨h1, fun m o q => ?_⟩
      rcases (show plF m < f ∨ plF m = f by omega) with d | d
      · exact h2 m o d
      · exact a1 (ec m o d ▸ o)
    · refine Or.inr ⟨h1, fun m o q => ?_⟩
      rcases (show plF m < f ∨ plF m = f by omega) with d | d
      · exact h2 m o d
      · exact absurd (ec m o d ▸ o) a1
  · rcases h with ⟨h1, h2⟩ | ⟨h1, h2⟩
    · obtain rfl : x' = c := by omega
      refine Or.inr ⟨a1, fun m o q => ?_⟩
      rcases (show plF m < f ∨ plF m = f by omega) with d | d
      · exact absurd d (h2 m o)
      · have k := ec m o d
        omega
    · have q1 := nn x h1
      refine Or.inr ⟨?_, fun m o q => ?_⟩
      · rcases (show x' = c ∨ x' = x by omega) with d | d
        · rw [d]; exact a1
        · rw [d]; exact h1
      · rcases (show plF m < f ∨ plF m = f by omega) with d | d
        · have k := h2 m o d
          omega
        · have k := ec m o d
          omega
end CO
theorem plOn_c {P : Int → Int → Prop} {T : Int → Int} {t : Nat → Int} {u s f : Int} (f1 : 1 ≤ f) (f2 : f ≤ 20) : plOn P T t u (20 * s + f) ↔ (21 ≤ 20 * s + f ∧ 20 * s + f ≤ 200 ∧ f ≤ u ∧ P s f ∧ t (u - f).toNat ≠ -1 ∧ 1000 * T s + 1 + t (u - f).toNat = t u.toNat) := by
  have e1 : plF (20 * s + f) = f := by unfold plF; omega
  have e2 : (20 * s + f - 1) / 20 = s := by omega
  unfold plOn
  rw [e1, e2]
/-- beside the class's rows -/
theorem cl_c {P : Int → Int → Prop} {S : Nat → Int} {T : Int → Int} {a b : Nat → Int32} {n : Nat} {u f : Int} (hS : clS P S n) (hB : clB a b n) (f1 : 1 ≤ f) (f2 : f ≤ 20) (f3 : f ≤ u) (h2 : u ≤ (n : Int)) (n4 : n ≤ 400) (hs : S f.toNat ≠ 0) (hu : clT a b u.toNat ≠ -1) : plOn P T (clT a b) u (20 * S f.toNat + f) ↔ ((a (u - f).toNat).toInt ≠ -1 ∧ (a (u - f).toNat).toInt + T (S f.toNat) = (a u.toNat).toInt ∧ (b (u - f).toNat).toInt + 1 = (b u.toNat).toInt) := by
  rw [plOn_c f1 f2]
  have v1 := clT_v (a := a) (b := b) (u := u.toNat)
  have v2 := clT_v (a := a) (b := b) (u := (u - f).toNat)
  have b1 := hB u.toNat (by omega)
  have b2 := hB (u - f).toNat (by omega)
  have l := hS f.toNat (by omega) (by omega) (by omega)
  rw [show ((f.toNat : Nat) : Int) = f by omega] at l
  rcases l with ⟨a1, a2⟩ | ⟨a1, a2, a3, a4⟩
  · exact absurd a1 hs
  · constructor
    · rintro ⟨h1, h2, h3, h4, h5, h6⟩
      omega
    · rintro ⟨h1, h2, h3⟩
      exact ⟨by omega, by omega, f3, a3, by omega, by omega⟩
/-- a row that grows -/
theorem plW_go {P : Int → Int → Prop} {T : Int → Int} {t : Nat → Int} {u o c : Int} {k : Nat} {row row' : Nat → Int32} {v : Int32} (h : ∀ j : Nat, j < k → 1 ≤ plD u row j ∧ plL P T t (plD u row j) (row j).toInt) (hd : plD u row k = o) (h1 : 1 ≤ o) (hl : plL P T t o c) (hv : v.toInt = c) (hr : row' = upd row k v) : (∀ j : Nat, j < k + 1 → 1 ≤ plD u row' j ∧ plL P T t (plD u row' j) (row' j).toInt) ∧ plD u row' (k + 1) = o - plF c := by
  have e : ∀ j : Nat, j < k → row j = row' j := fun j hj => by
    rw [hr]
    exact (if_neg (show ¬ j = k by omega)).symm
  have ek : (row' k).toInt = c := by
    rw [hr, show upd row k v k = v from if_pos rfl]
    exact hv
  have dk : plD u row' k = o := by rw [← plD_eq e]; exact hd
  refine ⟨fun j hj => ?_, ?_⟩
  · by_cases q : j < k
    · rw [← plD_eq (fun i hi => e i (by omega)), ← e j q]
      exact h j q
    · obtain rfl : j = k := by omega
      rw [dk, ek]
      exact ⟨h1, hl⟩
  · show plD u row' k - plF (row' k).toInt = o - plF c
    rw [dk, ek]
theorem tmT_lt {Q : gS} (hn : 1 ≤ tmN Q) : ∀ a b : Int, 1 ≤ a → a < b → b ≤ 9 → tmT Q a < tmT Q b := fun a b _ h2 _ => by
  unfold tmT
  rw [tmA_sp (sp := a), tmA_sp (sp := b), show (((tmN Q).toNat : Nat) : Int) = tmN Q by omega]
  have k : tmN Q * 1 ≤ tmN Q * (b - a) := Int.mul_le_mul (Int.le_refl _) (by omega) (by decide) (by omega)
  rw [Int.mul_sub, Int.mul_one] at k
  omega
theorem pl_dv {a b z : Int} (hz : z = a / b) (h0 : 0 ≤ a) (hb : 1 ≤ b) : 0 ≤ z ∧ z ≤ a := by
  rw [hz]
  exact ⟨Int.ediv_nonneg h0 (by omega), Int.ediv_le_self _ h0⟩
theorem pl_ge {a b : Int} (h1 : 1 ≤ a) (hb : 1 ≤ b) (hm : a % b = 0) : 1 ≤ a / b := by
  have k := Int.emod_add_mul_ediv a b
  by_cases c : 1 ≤ a / b
  · exact c
  · have l : b * (a / b) ≤ b * 0 := Int.mul_le_mul_of_nonneg_left (by omega) (by omega)
    rw [Int.mul_zero] at l
    omega
