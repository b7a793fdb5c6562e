/-! what is heard in a sound: numbers f -/
/-- a change, without its sign -/
def cCh (f : Nat → Int32) (i t : Int) : Int := ((f i.toNat).toInt - (f (i - t).toNat).toInt).natAbs
def cAb (f : Nat → Int32) (i : Int) : Int := (f i.toNat).toInt.natAbs
def sS (g : Int → Int) (lo : Int) : Nat → Int
  | 0 => 0
  | m + 1 => sS g lo m + g (lo + m)
theorem sS_1 {g : Int → Int} {lo x y z w : Int} (h : x = sS g lo (y - lo).toNat) (hl : lo ≤ y) (hz : z = x + g y) (hw : w = y + 1) : z = sS g lo (w - lo).toNat := by
  subst hw
  rw [show (y + 1 - lo).toNat = (y - lo).toNat + 1 by omega]
  show z = sS g lo (y - lo).toNat + g (lo + ((y - lo).toNat : Nat))
  rw [← h, show lo + ((y - lo).toNat : Int) = y by omega, hz]
theorem sS_eq {g g' : Int → Int} {lo : Int} : ∀ {m : Nat}, (∀ i : Int, lo ≤ i → i < lo + m → g' i = g i) → sS g' lo m = sS g lo m
  | 0, _ => rfl
  | m + 1, h => by
    show sS g' lo m + g' (lo + m) = sS g lo m + g (lo + m)
    rw [sS_eq (fun i h1 h2 => h i h1 (by omega)), h (lo + m) (by omega) (by omega)]
/-- FORCED -/
def fF (f : Nat → Int32) (c t : Int) : Int := if 2 * sS (fun i => cCh f i t) t (c - t).toNat ≤ sS (cAb f) t (c - t).toNat then 1 else 0
theorem fF_eq {f f' : Nat → Int32} {c t : Int} (ht : 0 ≤ t) (h : ∀ i : Nat, (i : Int) < c → f' i = f i) : fF f' c t = fF f c t := by
  unfold fF
  rw [sS_eq (g := fun i => cCh f i t) (g' := fun i => cCh f' i t) (fun i h1 h2 => by
    show cCh f' i t = cCh f i t
    unfold cCh
    rw [h i.toNat (by omega), h (i - t).toNat (by omega)]), sS_eq (g := cAb f) (g' := cAb f') (fun i h1 h2 => by
    unfold cAb
    rw [h i.toNat (by omega)])]
/-- changes above a in a window -/
def wN (f : Nat → Int32) (t a lo : Int) : Nat → Int
  | 0 => 0
  | m + 1 => wN f t a lo m + (if a < cCh f (lo + m) t then 1 else 0)
def wW (f : Nat → Int32) (t a n i : Int) : Int := wN f t a (max t (i - n + 1)) (i + 1 - max t (i - n + 1)).toNat
theorem wN_1 {f : Nat → Int32} {t a lo x y z w : Int} (h : x = wN f t a lo (y - lo).toNat) (hl : lo ≤ y) (hz : z = x + (if a < cCh f y t then 1 else 0)) (hw : w = y + 1) : z = wN f t a lo (w - lo).toNat := by
  subst hw
  rw [show (y + 1 - lo).toNat = (y - lo).toNat + 1 by omega]
  show z = wN f t a lo (y - lo).toNat + (if a < cCh f (lo + ((y - lo).toNat : Nat)) t then 1 else 0)
  rw [← h, show lo + ((y - lo).toNat : Int) = y by omega, hz]
theorem wN_first {f : Nat → Int32} {t a lo : Int} : ∀ m : Nat, wN f t a lo (m + 1) = (if a < cCh f lo t then 1 else 0) + wN f t a (lo + 1) m
  | 0 => by
    show 0 + (if a < cCh f (lo + ((0 : Nat) : Int)) t then 1 else 0) = (if a < cCh f lo t then 1 else 0) + 0
    rw [show lo + ((0 : Nat) : Int) = lo by omega]
    omega
  | m + 1 => by
    have h := wN_first (f := f) (t := t) (a := a) (lo := lo) m
    show wN f t a lo (m + 1) + (if a < cCh f (lo + ((m + 1 : Nat) : Int)) t then 1 else 0) = (if a < cCh f lo t then 1 else 0) + (wN f t a (lo + 1) m + (if a < cCh f (lo + 1 + (m : Nat)) t then 1 else 0))
    rw [h, show lo + ((m + 1 : Nat) : Int) = lo + 1 + (m : Nat) by omega]
    omega
theorem wN_eq {f f' : Nat → Int32} {t a lo : Int} : ∀ {m : Nat}, (∀ i : Int, lo ≤ i → i < lo + m → cCh f' i t = cCh f i t) → wN f' t a lo m = wN f t a lo m
  | 0, _ => rfl
  | m + 1, h => by
    show wN f' t a lo m + (if a < cCh f' (lo + m) t then 1 else 0) = wN f t a lo m + (if a < cCh f (lo + m) t then 1 else 0)
    rw [wN_eq (fun i h1 h2 => h i h1 (by omega)), h (lo + m) (by omega) (by omega)]
/-- RINGS OUT -/
def rO (f : Nat → Int32) (c t n m a r : Int) : Prop := (r = -1 ∧ ∀ i : Int, t ≤ i → i < c → wW f t a n i < m) ∨ (t ≤ r ∧ r < c ∧ m ≤ wW f t a n r ∧ ∀ i : Int, t ≤ i → i < r → wW f t a n i < m)
theorem rO.uniq {f f' : Nat → Int32} {c t n m a r r' : Int} (ht : 1 ≤ t) (he : ∀ i : Nat, (i : Int) < c → f' i = f i) (h : rO f c t n m a r) (g : rO f' c t n m a r') : r = r' := by
  have hw : ∀ i : Int, t ≤ i → i < c → wW f' t a n i = wW f t a n i := fun i h1 h2 => wN_eq (fun k h3 h4 => by
    unfold cCh
    rw [he k.toNat (by omega), he (k - t).toNat (by omega)])
  rcases h with ⟨a1, a2⟩ | ⟨a1, a2, a3, a4⟩ <;> rcases g with ⟨b1, b2⟩ | ⟨b1, b2, b3, b4⟩
  · omega
  · have h1 := a2 r' b1 b2
    rw [hw r' b1 b2] at b3
    omega
  · have h1 := b2 r a1 a2
    rw [hw r a1 a2] at h1
    omega
  · rcases Int.lt_trichotomy r r' with h1 | h1 | h1
    · have h2 := b4 r a1 h1
      rw [hw r a1 a2] at h2
      omega
    · exact h1
    · have h2 := a4 r' b1 h1
      rw [hw r' b1 b2] at b3
      omega
theorem wN_nn {f : Nat → Int32} {t a lo : Int} : ∀ m : Nat, 0 ≤ wN f t a lo m ∧ wN f t a lo m ≤ m
  | 0 => ⟨Int.le_refl _, Int.le_refl _⟩
  | m + 1 => by
    have h := wN_nn (f := f) (t := t) (a := a) (lo := lo) m
    show 0 ≤ wN f t a lo m + (if a < cCh f (lo + m) t then 1 else 0) ∧ wN f t a lo m + (if a < cCh f (lo + m) t then 1 else 0) ≤ ((m + 1 : Nat) : Int)
    split <;> omega
theorem ring_step {f : Nat → Int32} {t a n i x z w : Int} (h : x = wN f t a (max t (i - n)) (i - max t (i - n)).toNat) (ht : t ≤ i) (hn : 1 ≤ n) (hz : z = x + (if a < cCh f i t then 1 else 0)) (hw : (t ≤ i - n ∧ w = z - (if a < cCh f (i - n) t then 1 else 0)) ∨ (i - n < t ∧ w = z)) : w = wW f t a n i := by
  unfold wW
  have h1 := wN_1 h (by omega) hz (rfl : i + 1 = i + 1)
  rcases hw with ⟨a1, a2⟩ | ⟨a1, a2⟩
  · rw [show max t (i - n) = i - n by omega] at h1
    rw [show (i + 1 - (i - n)).toNat = (i + 1 - (i - n + 1)).toNat + 1 by omega, wN_first] at h1
    rw [show max t (i - n + 1) = i - n + 1 by omega]
    omega
  · rw [show max t (i - n) = t by omega] at h1
    rw [show max t (i - n + 1) = t by omega]
    omega
theorem ring_next {f : Nat → Int32} {t a n i j w : Int} (h : w = wW f t a n i) (hj : j = i + 1) : w = wN f t a (max t (j - n)) (j - max t (j - n)).toNat := by
  subst hj
  rw [h]
  unfold wW
  rw [show i + 1 - n = i - n + 1 by omega]
