/-! a pass, step by step. Q: numbers of the shop (0), teeth (1), sway (2), 3: level, feed, gap, speed, stiffness, damping, how many teeth; C: the codes of the three sums.
A state S: heights by sector (0), the turn, the tooth, the x that left a sector (1, 2, 3; -1: none), 4: wear, x, v, out, farthest, time, force, shaken -/
def psC (lo hi : Int) (v : Int32) : Int32 := Int32.ofInt (max lo (min hi v.toInt))
def psW (w v : Int32) : Int32 := Int32.ofInt (min 30000 (w.toInt + max 0 (min 30000 v.toInt)))
def psA (x : Int32) : Int := if x.toInt < 0 then -x.toInt else x.toInt
/-- where the teeth of a turn stop -/
def psF (Q : gS) (t : Int32) : Int32 := Q 3 0 - Q 3 1 * (t + 1)
/-- the place that a tooth bites -/
def psP (Q : gS) (i : Int) (k : Nat) : Nat := ((i + (Q 1 k).toInt) % (Q 0 0).toInt).toNat
def psH (Q : gS) (i : Int) (t : Int32) (k : Nat) (S : gS) : Int32 := S 0 (psP Q i k) - (psF Q t + S 4 1)
/-- a tooth bites -/
def psB (Q : gS) (C : Nat → List Int) (i : Int) (t : Int32) (k : Nat) (S : gS) : gS := fun j =>
  if j = 0 then upd (S 0) (psP Q i k) (psF Q t + S 4 1)
  else if j = 1 then upd (S 1) (psP Q i k) t
  else if j = 2 then upd (S 2) (psP Q i k) (Int32.ofNat k)
  else if j = 3 then upd (S 3) (psP Q i k) (S 4 1)
  else if j = 4 then upd (upd (S 4) 6 (S 4 6 + psC (-9999) 9999 (eV (psH Q i t k S) (S 4 0) (C 0)))) 0 (psW (S 4 0) (eV (psH Q i t k S) 0 (C 2)))
  else S j
/-- a tooth is out -/
def psO (S : gS) : gS := fun j => if j = 4 then upd (S 4) 3 (S 4 3 + 1) else S j
/-- the first teeth -/
def psT (Q : gS) (C : Nat → List Int) (i : Int) (t : Int32) : Nat → gS → gS
  | 0, S => S
  | k + 1, S => if (psH Q i t k (psT Q C i t k S)).toInt ≤ 0 then psO (psT Q C i t k S) else psB Q C i t k (psT Q C i t k S)
/-- a step of the machine -/
def psV (Q : gS) (fo ho : Int32) (S : gS) : Int32 := S 4 2 + (fo - ho * S 4 1 - Q 3 5 * S 4 2) / Q 0 2
def psS (Q : gS) (fo ho : Int32) (S : gS) : gS := fun j =>
  if j = 4 then upd (upd (upd (upd (upd (S 4) 2 (psV Q fo ho S)) 1 (S 4 1 + psV Q fo ho S)) 5 (S 4 5 + 1)) 4 (Int32.ofInt (max (S 4 4).toInt (psA (S 4 1 + psV Q fo ho S))))) 7 (if (Q 0 7).toInt < psA (S 4 1 + psV Q fo ho S) then 1 else 0)
  else S j
/-- the first steps, till it swings too far -/
def psJ (Q : gS) (fo ho : Int32) : Nat → gS → gS
  | 0, S => S
  | n + 1, S => if psJ Q fo ho n S 4 7 = 0 then psS Q fo ho (psJ Q fo ho n S) else psJ Q fo ho n S
/-- a sector's turn begins -/
def psG (t : Int32) (S : gS) : gS := fun j => if j = 4 then upd (upd (S 4) 6 0) 8 (t + 1) else S j
def psI (Q : gS) (n : Nat) : Int := (n : Int) % (Q 0 0).toInt
def psU (Q : gS) (n : Nat) : Int32 := Int32.ofInt ((n : Int) / (Q 0 0).toInt)
def psK (Q : gS) (C : Nat → List Int) (n : Nat) (S : gS) : gS := psT Q C (psI Q n) (psU Q n) (Q 3 6).toInt.toNat (psG (psU Q n) S)
/-- the n-th sector -/
def psN (Q : gS) (C : Nat → List Int) (n : Nat) (S : gS) : gS := psJ Q (psK Q C n S 4 6) (Q 3 4 + psC 0 999 (eV (psK Q C n S 0 (psI Q n).toNat) (Q 3 2) (C 1))) (Q 3 3 + Q 2 ((n : Int) % (Q 0 11).toInt).toNat).toInt.toNat (psK Q C n S)
/-- the first sectors, till it swings too far -/
def psR (Q : gS) (C : Nat → List Int) : Nat → gS → gS
  | 0, S => S
  | n + 1, S => if psR Q C n S 4 7 = 0 then psN Q C n (psR Q C n S) else psR Q C n S
def psZ (H : Nat → Int32) (w : Int32) : gS := fun j => if j = 0 then H else if j = 1 then fun _ => -1 else if j = 4 then fun k => if k = 0 then w else 0 else fun _ => 0
/-- the greatest and the least of the first numbers of a row -/
def psMx (h : Nat → Int32) : Nat → Int
  | 0 => (h 0).toInt
  | n + 1 => max (psMx h n) (h (n + 1)).toInt
def psMn (h : Nat → Int32) : Nat → Int
  | 0 => (h 0).toInt
  | n + 1 => min (psMn h n) (h (n + 1)).toInt
