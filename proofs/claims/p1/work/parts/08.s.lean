/-! what a pass does, over the untold numbers: 8 sectors, mass 4, limit 500, mark 20, no sway, force is the chip, no wall, no wear -/
def sp_most (h : Nat → Int32) : Nat → Int32
  | 0 => h 0
  | k + 1 => if sp_most h k < h (k + 1) then h (k + 1) else sp_most h k
def sp_least (h : Nat → Int32) : Nat → Int32
  | 0 => h 0
  | k + 1 => if h (k + 1) < sp_least h k then h (k + 1) else sp_least h k
def sp_cl (v : Int32) : Int32 := if (-9999) < (if v < 9999 then v else 9999) then (if v < 9999 then v else 9999) else (-9999)
def sp_tooth (fl x : Int32) (i t : Nat) (s : (Nat → Int32) × Int32) : (Nat → Int32) × Int32 := if s.1 ((i + t) % 8) - fl - x ≤ 0 then s else (upd s.1 ((i + t) % 8) (fl + x), s.2 + sp_cl (s.1 ((i + t) % 8) - fl - x))
def sp_bite (fl x : Int32) (i : Nat) (tf : Nat → Nat) (h : Nat → Int32) : Nat → (Nat → Int32) × Int32
  | 0 => (h, 0)
  | k + 1 => sp_tooth fl x i (tf k) (sp_bite fl x i tf h k)
def sp_step (f st dm : Int32) (s : Int32 × Int32 × Bool) : Int32 × Int32 × Bool := if s.2.2 = true then s else (s.1 + (s.2.1 + (f - st * s.1 - dm * s.2.1) / 4), s.2.1 + (f - st * s.1 - dm * s.2.1) / 4, decide (500 < s.1 + (s.2.1 + (f - st * s.1 - dm * s.2.1) / 4) ∨ s.1 + (s.2.1 + (f - st * s.1 - dm * s.2.1) / 4) < (-500)))
def sp_sw (f st dm x v : Int32) : Nat → Int32 × Int32 × Bool
  | 0 => (x, v, false)
  | d + 1 => sp_step f st dm (sp_sw f st dm x v d)
def sp_sec (lv fd : Int32) (sp : Nat) (st dm : Int32) (tf : Nat → Nat) (tm n : Nat) (s : (Nat → Int32) × Int32 × Int32 × Bool) : (Nat → Int32) × Int32 × Int32 × Bool :=
  if s.2.2.2 = true then s else ((sp_bite (lv - fd * (nI (n / 8) + 1)) s.2.1 (n % 8) tf s.1 tm).1, sp_sw (sp_bite (lv - fd * (nI (n / 8) + 1)) s.2.1 (n % 8) tf s.1 tm).2 st dm s.2.1 s.2.2.1 sp)
def sp_pass (lv fd : Int32) (sp : Nat) (st dm : Int32) (tf : Nat → Nat) (tm : Nat) (h : Nat → Int32) : Nat → (Nat → Int32) × Int32 × Int32 × Bool
  | 0 => (h, 0, 0, false)
  | n + 1 => sp_sec lv fd sp st dm tf tm n (sp_pass lv fd sp st dm tf tm h n)
def sp_ver (s : (Nat → Int32) × Int32 × Int32 × Bool) : Int32 := if s.2.2.2 = true then 2 else if 20 < sp_most s.1 7 - sp_least s.1 7 then 1 else 0
theorem sp_most_congr {h g : Nat → Int32} : ∀ (k : Nat), (∀ j, j ≤ k → h j = g j) → sp_most h k = sp_most g k
  | 0, e => e 0 (Nat.le_refl 0)
  | k + 1, e => by
    unfold sp_most
    rw [sp_most_congr k (fun j hj => e j (by omega)), e (k + 1) (Nat.le_refl _)]
theorem sp_least_congr {h g : Nat → Int32} : ∀ (k : Nat), (∀ j, j ≤ k → h j = g j) → sp_least h k = sp_least g k
  | 0, e => e 0 (Nat.le_refl 0)
  | k + 1, e => by
    unfold sp_least
    rw [sp_least_congr k (fun j hj => e j (by omega)), e (k + 1) (Nat.le_refl _)]
theorem sp_sw_stop {f st dm x v : Int32} {d : Nat} (h : (sp_sw f st dm x v d).2.2 = true) : ∀ m, sp_sw f st dm x v (d + m) = sp_sw f st dm x v d
  | 0 => rfl
  | m + 1 => by
    show sp_step f st dm (sp_sw f st dm x v (d + m)) = _
    rw [sp_sw_stop h m]
    unfold sp_step
    rw [if_pos h]
theorem sp_pass_stop {lv fd : Int32} {sp : Nat} {st dm : Int32} {tf : Nat → Nat} {tm : Nat} {h : Nat → Int32} {n : Nat} (e : (sp_pass lv fd sp st dm tf tm h n).2.2.2 = true) : ∀ m, sp_pass lv fd sp st dm tf tm h (n + m) = sp_pass lv fd sp st dm tf tm h n
  | 0 => rfl
  | m + 1 => by
    show sp_sec lv fd sp st dm tf tm (n + m) (sp_pass lv fd sp st dm tf tm h (n + m)) = _
    rw [sp_pass_stop e m]
    unfold sp_sec
    rw [if_pos e]
-- numbers that stay small
theorem gz_bm {z : Int} (h1 : -2147483648 ≤ z) (h2 : z ≤ 2147483647) : z.bmod 4294967296 = z := by
  simp only [Int.bmod]
  split <;> omega
theorem gz_add {a b : Int32} (h1 : -2147483648 ≤ a.toInt + b.toInt) (h2 : a.toInt + b.toInt ≤ 2147483647) : (a + b).toInt = a.toInt + b.toInt := by rw [Int32.toInt_add]; exact gz_bm h1 h2
theorem gz_sub {a b : Int32} (h1 : -2147483648 ≤ a.toInt - b.toInt) (h2 : a.toInt - b.toInt ≤ 2147483647) : (a - b).toInt = a.toInt - b.toInt := by rw [Int32.toInt_sub]; exact gz_bm h1 h2
theorem gz_mul {a b : Int32} (h1 : -2147483648 ≤ a.toInt * b.toInt) (h2 : a.toInt * b.toInt ≤ 2147483647) : (a * b).toInt = a.toInt * b.toInt := by rw [Int32.toInt_mul]; exact gz_bm h1 h2
theorem gz_neg {a : Int32} (h1 : -2147483647 ≤ a.toInt) : (-a).toInt = -a.toInt := by
  rw [Int32.toInt_neg]
  have := Int32.toInt_lt a
  exact gz_bm (by omega) (by omega)
theorem gz_mb {a b A B : Int} (h1 : -A ≤ a) (h2 : a ≤ A) (h3 : -B ≤ b) (h4 : b ≤ B) : -(A * B) ≤ a * b ∧ a * b ≤ A * B := by
  have h5 : (a * b).natAbs ≤ A.natAbs * B.natAbs := by
    rw [Int.natAbs_mul]
    exact Nat.mul_le_mul (by omega) (by omega)
  have h6 : ((A.natAbs * B.natAbs : Nat) : Int) = A * B := by
    rw [Int.natCast_mul, Int.natAbs_of_nonneg (by omega), Int.natAbs_of_nonneg (by omega)]
  generalize a * b = z at h5 ⊢
  omega
theorem gz_d4 {a : Int32} (M : Int) (h1 : -M ≤ a.toInt) (h2 : a.toInt ≤ M) (hM : M ≤ 2147483647) : -M ≤ (a / 4).toInt ∧ (a / 4).toInt ≤ M := by
  rw [Int32.toInt_div]
  have e4 : (4 : Int32).toInt = 4 := rfl
  rw [e4]
  have h3 : -M ≤ a.toInt.tdiv 4 ∧ a.toInt.tdiv 4 ≤ M := by
    rw [Int.tdiv_eq_ediv]
    split <;> (try simp only [show Int.sign 4 = 1 from rfl]) <;> omega
  rw [gz_bm (by omega) (by omega)]
  exact h3
/-- what the swings rest on -/
def sp_ok (f st dm : Int32) : Prop := -40000 ≤ f.toInt ∧ f.toInt ≤ 40000 ∧ 0 ≤ st.toInt ∧ st.toInt ≤ 300 ∧ 0 ≤ dm.toInt ∧ dm.toInt ≤ 300
def sp_xv (x v : Int32) : Prop := -500 ≤ x.toInt ∧ x.toInt ≤ 500 ∧ -1000 ≤ v.toInt ∧ v.toInt ≤ 1000
theorem sp_step_bd {f st dm x v : Int32} (h : sp_ok f st dm) (k : sp_xv x v) : (v + (f - st * x - dm * v) / 4).toInt = v.toInt + ((f - st * x - dm * v) / 4).toInt ∧ (x + (v + (f - st * x - dm * v) / 4)).toInt = x.toInt + (v + (f - st * x - dm * v) / 4).toInt ∧ -600000 ≤ (v + (f - st * x - dm * v) / 4).toInt ∧ (v + (f - st * x - dm * v) / 4).toInt ≤ 600000 := by
  obtain ⟨a1, a2, a3, a4, a5, a6⟩ := h
  obtain ⟨b1, b2, b3, b4⟩ := k
  have m1 := gz_mb (a := st.toInt) (b := x.toInt) (A := 300) (B := 500) (by omega) (by omega) b1 b2
  have m2 := gz_mb (a := dm.toInt) (b := v.toInt) (A := 300) (B := 1000) (by omega) (by omega) b3 b4
  have e1 := gz_mul (a := st) (b := x) (by omega) (by omega)
  have e2 := gz_mul (a := dm) (b := v) (by omega) (by omega)
  have e3 := gz_sub (a := f) (b := st * x) (by omega) (by omega)
  have e4 := gz_sub (a := f - st * x) (b := dm * v) (by omega) (by omega)
  have e5 := gz_d4 (a := f - st * x - dm * v) 500000 (by omega) (by omega) (by decide)
  have e6 := gz_add (a := v) (b := (f - st * x - dm * v) / 4) (by omega) (by omega)
  have e7 := gz_add (a := x) (b := v + (f - st * x - dm * v) / 4) (by omega) (by omega)
  exact ⟨e6, e7, by omega, by omega⟩
theorem sp_sw_bd {f st dm x v : Int32} (h : sp_ok f st dm) (k : sp_xv x v) : ∀ d, -700000 ≤ (sp_sw f st dm x v d).1.toInt ∧ (sp_sw f st dm x v d).1.toInt ≤ 700000 ∧ (¬ (sp_sw f st dm x v d).2.2 = true → sp_xv (sp_sw f st dm x v d).1 (sp_sw f st dm x v d).2.1)
  | 0 => ⟨by have := k.1; show -700000 ≤ x.toInt; omega, by have := k.2.1; show x.toInt ≤ 700000; omega, fun _ => k⟩
  | d + 1 => by
    have ih := sp_sw_bd h k d
    show -700000 ≤ (sp_step f st dm (sp_sw f st dm x v d)).1.toInt ∧ (sp_step f st dm (sp_sw f st dm x v d)).1.toInt ≤ 700000 ∧ (¬ (sp_step f st dm (sp_sw f st dm x v d)).2.2 = true → sp_xv (sp_step f st dm (sp_sw f st dm x v d)).1 (sp_step f st dm (sp_sw f st dm x v d)).2.1)
    generalize sp_sw f st dm x v d = s at ih ⊢
    unfold sp_step
    by_cases hb : s.2.2 = true
    · rw [if_pos hb]
      exact ih
    · rw [if_neg hb]
      have k2 := ih.2.2 hb
      obtain ⟨e6, e7, e8, e9⟩ := sp_step_bd h k2
      obtain ⟨b1, b2, b3, b4⟩ := k2
      refine ⟨?_, ?_, ?_⟩
      · show -700000 ≤ (s.1 + (s.2.1 + (f - st * s.1 - dm * s.2.1) / 4)).toInt
        omega
      · show (s.1 + (s.2.1 + (f - st * s.1 - dm * s.2.1) / 4)).toInt ≤ 700000
        omega
      · intro hn
        have hn2 : ¬ (500 < s.1 + (s.2.1 + (f - st * s.1 - dm * s.2.1) / 4) ∨ s.1 + (s.2.1 + (f - st * s.1 - dm * s.2.1) / 4) < (-500)) := fun q => hn (decide_eq_true q)
        have e5 : (500 : Int32).toInt = 500 := rfl
        have e6' : (-500 : Int32).toInt = -500 := rfl
        simp only [Int32.lt_iff_toInt_lt, e5, e6'] at hn2
        show sp_xv (s.1 + (s.2.1 + (f - st * s.1 - dm * s.2.1) / 4)) (s.2.1 + (f - st * s.1 - dm * s.2.1) / 4)
        unfold sp_xv
        omega
