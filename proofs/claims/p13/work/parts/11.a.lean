def kK (cI cII cB cZ : ClassId) : Nat → ClassId := fun n => if n = 0 then cI else if n = 1 then cII else if n = 2 then cB else cZ
def xA (l : List Nat) : Nat → Nat := fun j => l.getD j 0
theorem c2_ {α : Type} {a b : α} {l m : List α} (h : a = b) (g : l = m) : a :: l = b :: m := by rw [h, g]
theorem q_row {l : List Nat} {f : Nat → Nat} {n base : Nat} (h : ∀ i, i < n → f i = xA l (base + i)) : (fun i => if i < n then some (f i) else none) = (fun i => if i < n then some (xA l (base + i)) else none) := by
  funext i
  by_cases e : i < n
  · rw [if_pos e, if_pos e, h i e]
  · rw [if_neg e, if_neg e]
def x0G : gS := fun j => (if j < 45 then (if j < 22 then (if j < 11 then (if j < 5 then (if j < 2 then (if j < 1 then (fun k => if k = 13 then (-1) else 0) else (fun k => 0)) else (if j < 3 then (fun k => 0) else (if j < 4 then (fun k => 0) else (fun k => 0)))) else (if j < 8 then (if j < 6 then (fun k => 0) else (if j < 7 then (fun k => 0) else (fun k => 0))) else (if j < 9 then (fun k => 0) else (if j < 10 then (fun k => 0) else (fun k => 0))))) else (if j < 16 then (if j < 13 then (if j < 12 then (fun k => if k = 1 then 1 else 0) else (fun k => if k = 1 then 1 else 0)) else (if j < 14 then (fun k => if k = 1 then 1 else 0) else (if j < 15 then (fun k => if k = 1 then 1 else 0) else (fun k => if k = 1 then 1 else 0)))) else (if j < 19 then (if j < 17 then (fun k => if k = 1 then 1 else 0) else (if j < 18 then (fun _ => 0) else g_nums)) else (if j < 20 then g_nums else (if j < 21 then (upd (fun _ => 0) 0 (-1)) else (fun _ => 0)))))) else (if j < 33 then (if j < 27 then (if j < 24 then (if j < 23 then (fun _ => 0) else (upd (fun _ => 0) 0 0)) else (if j < 25 then (fun _ => 0) else (if j < 26 then (fun _ => 0) else (upd (fun _ => 0) 0 0)))) else (if j < 30 then (if j < 28 then (fun _ => 0) else (if j < 29 then (fun _ => 0) else (upd (fun _ => 0) 0 (-1)))) else (if j < 31 then (fun _ => 0) else (if j < 32 then (fun _ => 0) else (upd (fun _ => 0) 0 0))))) else (if j < 39 then (if j < 36 then (if j < 34 then (fun _ => 0) else (if j < 35 then (fun _ => 0) else (upd (fun _ => 0) 0 0))) else (if j < 37 then (fun _ => 0) else (if j < 38 then (fun _ => 0) else (fun _ => 1000)))) else (if j < 42 then (if j < 40 then (fun _ => 0) else (if j < 41 then (fun _ => (-1)) else (fun _ => 0))) else (if j < 43 then (fun _ => 0) else (if j < 44 then (fun _ => 0) else (fun _ => 0))))))) else (if j < 68 then (if j < 56 then (if j < 50 then (if j < 47 then (if j < 46 then (fun _ => 0) else (fun _ => 0)) else (if j < 48 then (fun _ => 0) else (if j < 49 then (fun _ => 0) else (fun _ => 0)))) else (if j < 53 then (if j < 51 then (fun _ => 0) else (if j < 52 then (fun _ => 0) else (fun _ => 0))) else (if j < 54 then (fun _ => 0) else (if j < 55 then (fun _ => 0) else (fun _ => 0))))) else (if j < 62 then (if j < 59 then (if j < 57 then (fun _ => 0) else (if j < 58 then (fun _ => 0) else (fun _ => 0))) else (if j < 60 then (fun _ => 0) else (if j < 61 then (fun _ => 0) else (fun _ => 0)))) else (if j < 65 then (if j < 63 then (fun _ => 0) else (if j < 64 then (fun _ => 0) else (fun _ => 0))) else (if j < 66 then (fun _ => 0) else (if j < 67 then (fun _ => 0) else (fun _ => 0)))))) else (if j < 79 then (if j < 73 then (if j < 70 then (if j < 69 then (fun _ => 1000) else (fun _ => 0)) else (if j < 71 then (fun _ => 0) else (if j < 72 then (fun _ => 0) else (fun _ => 0)))) else (if j < 76 then (if j < 74 then (fun _ => 0) else (if j < 75 then (fun _ => 0) else (fun _ => 0))) else (if j < 77 then (fun _ => 0) else (if j < 78 then (fun _ => 0) else (fun _ => 0))))) else (if j < 85 then (if j < 82 then (if j < 80 then (fun _ => 0) else (if j < 81 then (fun _ => 0) else (fun _ => 0))) else (if j < 83 then (fun _ => 0) else (if j < 84 then (fun _ => 0) else (fun _ => 0)))) else (if j < 88 then (if j < 86 then (fun _ => 0) else (if j < 87 then (fun _ => 0) else (fun _ => 0))) else (if j < 89 then (fun _ => 0) else (if j < 90 then (fun _ => 0) else (fun _ => 0))))))))
set_option maxRecDepth 20000 in
theorem xW_list {K : Nat → ClassId} {a : Nat → Nat} {G : gS} : xW K a G = [(a 0, xC K a 0 (G 0)), (a 1, xC K a 1 (G 1)), (a 2, xC K a 2 (G 2)), (a 3, xC K a 3 (G 3)), (a 4, xC K a 4 (G 4)), (a 5, xC K a 5 (G 5)), (a 6, xC K a 6 (G 6)), (a 7, xC K a 7 (G 7)), (a 8, xC K a 8 (G 8)), (a 9, xC K a 9 (G 9)), (a 10, xC K a 10 (G 10)), (a 11, xC K a 11 (G 11)), (a 12, xC K a 12 (G 12)), (a 13, xC K a 13 (G 13)), (a 14, xC K a 14 (G 14)), (a 15, xC K a 15 (G 15)), (a 16, xC K a 16 (G 16)), (a 17, xC K a 17 (G 17)), (a 18, xC K a 18 (G 18)), (a 19, xC K a 19 (G 19)), (a 20, xC K a 20 (G 20)), (a 21, xC K a 21 (G 21)), (a 22, xC K a 22 (G 22)), (a 23, xC K a 23 (G 23)), (a 24, xC K a 24 (G 24)), (a 25, xC K a 25 (G 25)), (a 26, xC K a 26 (G 26)), (a 27, xC K a 27 (G 27)), (a 28, xC K a 28 (G 28)), (a 29, xC K a 29 (G 29)), (a 30, xC K a 30 (G 30)), (a 31, xC K a 31 (G 31)), (a 32, xC K a 32 (G 32)), (a 33, xC K a 33 (G 33)), (a 34, xC K a 34 (G 34)), (a 35, xC K a 35 (G 35)), (a 36, xC K a 36 (G 36)), (a 37, xC K a 37 (G 37)), (a 38, xC K a 38 (G 38)), (a 39, xC K a 39 (G 39)), (a 40, xC K a 40 (G 40)), (a 41, xC K a 41 (G 41)), (a 42, xC K a 42 (G 42)), (a 43, xC K a 43 (G 43)), (a 44, xC K a 44 (G 44)), (a 45, xC K a 45 (G 45)), (a 46, xC K a 46 (G 46)), (a 47, xC K a 47 (G 47)), (a 48, xC K a 48 (G 48)), (a 49, xC K a 49 (G 49)), (a 50, xC K a 50 (G 50)), (a 51, xC K a 51 (G 51)), (a 52, xC K a 52 (G 52)), (a 53, xC K a 53 (G 53)), (a 54, xC K a 54 (G 54)), (a 55, xC K a 55 (G 55)), (a 56, xC K a 56 (G 56)), (a 57, xC K a 57 (G 57)), (a 58, xC K a 58 (G 58)), (a 59, xC K a 59 (G 59)), (a 60, xC K a 60 (G 60)), (a 61, xC K a 61 (G 61)), (a 62, xC K a 62 (G 62)), (a 63, xC K a 63 (G 63)), (a 64, xC K a 64 (G 64)), (a 65, xC K a 65 (G 65)), (a 66, xC K a 66 (G 66)), (a 67, xC K a 67 (G 67)), (a 68, xC K a 68 (G 68)), (a 69, xC K a 69 (G 69)), (a 70, xC K a 70 (G 70)), (a 71, xC K a 71 (G 71)), (a 72, xC K a 72 (G 72)), (a 73, xC K a 73 (G 73)), (a 74, xC K a 74 (G 74)), (a 75, xC K a 75 (G 75)), (a 76, xC K a 76 (G 76)), (a 77, xC K a 77 (G 77)), (a 78, xC K a 78 (G 78)), (a 79, xC K a 79 (G 79)), (a 80, xC K a 80 (G 80)), (a 81, xC K a 81 (G 81)), (a 82, xC K a 82 (G 82)), (a 83, xC K a 83 (G 83)), (a 84, xC K a 84 (G 84)), (a 85, xC K a 85 (G 85)), (a 86, xC K a 86 (G 86)), (a 87, xC K a 87 (G 87)), (a 88, xC K a 88 (G 88)), (a 89, xC K a 89 (G 89)), (a 90, xC K a 90 (G 90))] := rfl
theorem x0_I0 (k : Nat) : xlo 0 k ≤ (x0G 0 k).toInt ∧ (x0G 0 k).toInt ≤ xhi 0 k := by
  by_cases e0 : k = 11
  · subst e0; decide
  by_cases e1 : k = 13
  · subst e1; decide
  have a1 : xlo 0 k = -2147483648 := by show (if k = 11 then 0 else (-2147483648)) = _; simp only [if_neg e0, if_neg e1]
  have a2 : xhi 0 k = 2147483647 := by show (if k = 11 then 1 else 2147483647) = _; simp only [if_neg e0, if_neg e1]
  rw [a1, a2]
  exact ti_rng _
theorem x0_I1 (k : Nat) : xlo 1 k ≤ (x0G 1 k).toInt ∧ (x0G 1 k).toInt ≤ xhi 1 k := by
  by_cases e0 : k = 1
  · subst e0; decide
  by_cases e1 : k = 2
  · subst e1; decide
  by_cases e2 : k = 3
  · subst e2; decide
  by_cases e3 : k = 4
  · subst e3; decide
  have a1 : xlo 1 k = -2147483648 := by show (if k = 4 then 0 else (if k = 3 then 0 else (if k = 2 then 0 else (if k = 1 then 0 else (-2147483648))))) = _; simp only [if_neg e0, if_neg e1, if_neg e2, if_neg e3]
  have a2 : xhi 1 k = 2147483647 := by show (if k = 4 then 1000 else (if k = 3 then 4 else (if k = 2 then 1000 else (if k = 1 then 1000 else 2147483647)))) = _; simp only [if_neg e0, if_neg e1, if_neg e2, if_neg e3]
  rw [a1, a2]
  exact ti_rng _
theorem x0_I2 (k : Nat) : xlo 2 k ≤ (x0G 2 k).toInt ∧ (x0G 2 k).toInt ≤ xhi 2 k := by
  exact ti_rng _
theorem x0_I3 (k : Nat) : xlo 3 k ≤ (x0G 3 k).toInt ∧ (x0G 3 k).toInt ≤ xhi 3 k := by
  exact ti_rng _
theorem x0_I4 (k : Nat) : xlo 4 k ≤ (x0G 4 k).toInt ∧ (x0G 4 k).toInt ≤ xhi 4 k := by
  by_cases e0 : k = 2
  · subst e0; decide
  by_cases e1 : k = 4
  · subst e1; decide
  by_cases e2 : k = 5
  · subst e2; decide
  by_cases e3 : k = 6
  · subst e3; decide
  have a1 : xlo 4 k = -2147483648 := by show (if k = 6 then 0 else (if k = 5 then 0 else (if k = 4 then (-1) else (if k = 2 then 0 else (-2147483648))))) = _; simp only [if_neg e0, if_neg e1, if_neg e2, if_neg e3]
  have a2 : xhi 4 k = 2147483647 := by show (if k = 6 then 9999 else (if k = 5 then 6 else (if k = 4 then 12 else (if k = 2 then 1001 else 2147483647)))) = _; simp only [if_neg e0, if_neg e1, if_neg e2, if_neg e3]
  rw [a1, a2]
  exact ti_rng _
theorem x0_I5 (k : Nat) : xlo 5 k ≤ (x0G 5 k).toInt ∧ (x0G 5 k).toInt ≤ xhi 5 k := by
  by_cases e0 : k = 2
  · subst e0; decide
  by_cases e1 : k = 3
  · subst e1; decide
  have a1 : xlo 5 k = -2147483648 := by show (if k = 3 then 0 else (if k = 2 then 0 else (-2147483648))) = _; simp only [if_neg e0, if_neg e1]
  have a2 : xhi 5 k = 2147483647 := by show (if k = 3 then 200 else (if k = 2 then 30000 else 2147483647)) = _; simp only [if_neg e0, if_neg e1]
  rw [a1, a2]
  exact ti_rng _
theorem x0_I6 (k : Nat) : xlo 6 k ≤ (x0G 6 k).toInt ∧ (x0G 6 k).toInt ≤ xhi 6 k := by
  by_cases e0 : k = 7
  · subst e0; decide
  by_cases e1 : k = 12
  · subst e1; decide
  have a1 : xlo 6 k = -2147483648 := by show (if k = 12 then 0 else (if k = 7 then 0 else (-2147483648))) = _; simp only [if_neg e0, if_neg e1]
  have a2 : xhi 6 k = 2147483647 := by show (if k = 12 then 30000 else (if k = 7 then 4 else 2147483647)) = _; simp only [if_neg e0, if_neg e1]
  rw [a1, a2]
  exact ti_rng _
theorem x0_I7 (k : Nat) : xlo 7 k ≤ (x0G 7 k).toInt ∧ (x0G 7 k).toInt ≤ xhi 7 k := by
  by_cases e0 : k = 7
  · subst e0; decide
  have a1 : xlo 7 k = -2147483648 := by show (if k = 7 then 0 else (-2147483648)) = _; simp only [if_neg e0]
  have a2 : xhi 7 k = 2147483647 := by show (if k = 7 then 400 else 2147483647) = _; simp only [if_neg e0]
  rw [a1, a2]
  exact ti_rng _
theorem x0_I8 (k : Nat) : xlo 8 k ≤ (x0G 8 k).toInt ∧ (x0G 8 k).toInt ≤ xhi 8 k := by
  by_cases e0 : k = 3
  · subst e0; decide
  by_cases e1 : k = 8
  · subst e1; decide
  by_cases e2 : k = 10
  · subst e2; decide
  by_cases e3 : k = 11
  · subst e3; decide
  have a1 : xlo 8 k = -2147483648 := by show (if k = 11 then 0 else (if k = 10 then 0 else (if k = 8 then 0 else (if k = 3 then 0 else (-2147483648))))) = _; simp only [if_neg e0, if_neg e1, if_neg e2, if_neg e3]
  have a2 : xhi 8 k = 2147483647 := by show (if k = 11 then 300 else (if k = 10 then 300 else (if k = 8 then 5 else (if k = 3 then 5 else 2147483647)))) = _; simp only [if_neg e0, if_neg e1, if_neg e2, if_neg e3]
  rw [a1, a2]
  exact ti_rng _
theorem x0_I9 (k : Nat) : xlo 9 k ≤ (x0G 9 k).toInt ∧ (x0G 9 k).toInt ≤ xhi 9 k := by
  by_cases e0 : k = 4
  · subst e0; decide
  by_cases e1 : k = 6
  · subst e1; decide
  by_cases e2 : k = 8
  · subst e2; decide
  have a1 : xlo 9 k = -2147483648 := by show (if k = 8 then 0 else (if k = 6 then 0 else (if k = 4 then 0 else (-2147483648)))) = _; simp only [if_neg e0, if_neg e1, if_neg e2]
  have a2 : xhi 9 k = 2147483647 := by show (if k = 8 then 20 else (if k = 6 then 30 else (if k = 4 then 10 else 2147483647))) = _; simp only [if_neg e0, if_neg e1, if_neg e2]
  rw [a1, a2]
  exact ti_rng _
theorem x0_I10 (k : Nat) : xlo 10 k ≤ (x0G 10 k).toInt ∧ (x0G 10 k).toInt ≤ xhi 10 k := by
  by_cases e0 : k = 2
  · subst e0; decide
  have a1 : xlo 10 k = -2147483648 := by show (if k = 2 then 0 else (-2147483648)) = _; simp only [if_neg e0]
  have a2 : xhi 10 k = 2147483647 := by show (if k = 2 then 150 else 2147483647) = _; simp only [if_neg e0]
  rw [a1, a2]
  exact ti_rng _
theorem x0_I11 (k : Nat) : xlo 11 k ≤ (x0G 11 k).toInt ∧ (x0G 11 k).toInt ≤ xhi 11 k := by
  by_cases e0 : k = 1
  · subst e0; decide
  by_cases e1 : k = 4
  · subst e1; decide
  by_cases e2 : k = 5
  · subst e2; decide
  by_cases e3 : k = 8
  · subst e3; decide
  have a1 : xlo 11 k = -2147483648 := by show (if k = 8 then 0 else (if k = 5 then 0 else (if k = 4 then 0 else (if k = 1 then 0 else (-2147483648))))) = _; simp only [if_neg e0, if_neg e1, if_neg e2, if_neg e3]
  have a2 : xhi 11 k = 2147483647 := by show (if k = 8 then 1 else (if k = 5 then 12 else (if k = 4 then 16 else (if k = 1 then 80 else 2147483647)))) = _; simp only [if_neg e0, if_neg e1, if_neg e2, if_neg e3]
  rw [a1, a2]
  exact ti_rng _
theorem x0_I12 (k : Nat) : xlo 12 k ≤ (x0G 12 k).toInt ∧ (x0G 12 k).toInt ≤ xhi 12 k := by
  by_cases e0 : k = 1
  · subst e0; decide
  by_cases e1 : k = 4
  · subst e1; decide
  by_cases e2 : k = 5
  · subst e2; decide
  by_cases e3 : k = 8
  · subst e3; decide
  have a1 : xlo 12 k = -2147483648 := by show (if k = 8 then 0 else (if k = 5 then 0 else (if k = 4 then 0 else (if k = 1 then 0 else (-2147483648))))) = _; simp only [if_neg e0, if_neg e1, if_neg e2, if_neg e3]
  have a2 : xhi 12 k = 2147483647 := by show (if k = 8 then 1 else (if k = 5 then 12 else (if k = 4 then 16 else (if k = 1 then 80 else 2147483647)))) = _; simp only [if_neg e0, if_neg e1, if_neg e2, if_neg e3]
  rw [a1, a2]
  exact ti_rng _
theorem x0_I13 (k : Nat) : xlo 13 k ≤ (x0G 13 k).toInt ∧ (x0G 13 k).toInt ≤ xhi 13 k := by
  by_cases e0 : k = 1
  · subst e0; decide
  by_cases e1 : k = 4
  · subst e1; decide
  by_cases e2 : k = 5
  · subst e2; decide
  by_cases e3 : k = 8
  · subst e3; decide
  have a1 : xlo 13 k = -2147483648 := by show (if k = 8 then 0 else (if k = 5 then 0 else (if k = 4 then 0 else (if k = 1 then 0 else (-2147483648))))) = _; simp only [if_neg e0, if_neg e1, if_neg e2, if_neg e3]
  have a2 : xhi 13 k = 2147483647 := by show (if k = 8 then 1 else (if k = 5 then 12 else (if k = 4 then 16 else (if k = 1 then 80 else 2147483647)))) = _; simp only [if_neg e0, if_neg e1, if_neg e2, if_neg e3]
  rw [a1, a2]
  exact ti_rng _
theorem x0_I14 (k : Nat) : xlo 14 k ≤ (x0G 14 k).toInt ∧ (x0G 14 k).toInt ≤ xhi 14 k := by
  by_cases e0 : k = 1
  · subst e0; decide
  by_cases e1 : k = 4
  · subst e1; decide
  by_cases e2 : k = 5
  · subst e2; decide
  by_cases e3 : k = 8
  · subst e3; decide
  have a1 : xlo 14 k = -2147483648 := by show (if k = 8 then 0 else (if k = 5 then 0 else (if k = 4 then 0 else (if k = 1 then 0 else (-2147483648))))) = _; simp only [if_neg e0, if_neg e1, if_neg e2, if_neg e3]
  have a2 : xhi 14 k = 2147483647 := by show (if k = 8 then 1 else (if k = 5 then 12 else (if k = 4 then 16 else (if k = 1 then 80 else 2147483647)))) = _; simp only [if_neg e0, if_neg e1, if_neg e2, if_neg e3]
  rw [a1, a2]
  exact ti_rng _
theorem x0_I15 (k : Nat) : xlo 15 k ≤ (x0G 15 k).toInt ∧ (x0G 15 k).toInt ≤ xhi 15 k := by
  by_cases e0 : k = 1
  · subst e0; decide
  by_cases e1 : k = 4
  · subst e1; decide
  by_cases e2 : k = 5
  · subst e2; decide
  by_cases e3 : k = 8
  · subst e3; decide
  have a1 : xlo 15 k = -2147483648 := by show (if k = 8 then 0 else (if k = 5 then 0 else (if k = 4 then 0 else (if k = 1 then 0 else (-2147483648))))) = _; simp only [if_neg e0, if_neg e1, if_neg e2, if_neg e3]
  have a2 : xhi 15 k = 2147483647 := by show (if k = 8 then 1 else (if k = 5 then 12 else (if k = 4 then 16 else (if k = 1 then 80 else 2147483647)))) = _; simp only [if_neg e0, if_neg e1, if_neg e2, if_neg e3]
  rw [a1, a2]
  exact ti_rng _
theorem x0_I16 (k : Nat) : xlo 16 k ≤ (x0G 16 k).toInt ∧ (x0G 16 k).toInt ≤ xhi 16 k := by
  by_cases e0 : k = 1
  · subst e0; decide
  by_cases e1 : k = 4
  · subst e1; decide
  by_cases e2 : k = 5
  · subst e2; decide
  by_cases e3 : k = 8
  · subst e3; decide
  have a1 : xlo 16 k = -2147483648 := by show (if k = 8 then 0 else (if k = 5 then 0 else (if k = 4 then 0 else (if k = 1 then 0 else (-2147483648))))) = _; simp only [if_neg e0, if_neg e1, if_neg e2, if_neg e3]
  have a2 : xhi 16 k = 2147483647 := by show (if k = 8 then 1 else (if k = 5 then 12 else (if k = 4 then 16 else (if k = 1 then 80 else 2147483647)))) = _; simp only [if_neg e0, if_neg e1, if_neg e2, if_neg e3]
  rw [a1, a2]
  exact ti_rng _
theorem x0_I17 (k : Nat) : xlo 17 k ≤ (x0G 17 k).toInt ∧ (x0G 17 k).toInt ≤ xhi 17 k := by
  show ((-128) : Int) ≤ Int32.toInt (0 : Int32) ∧ Int32.toInt (0 : Int32) ≤ 127
  decide
theorem x0_I18 (k : Nat) : xlo 18 k ≤ (x0G 18 k).toInt ∧ (x0G 18 k).toInt ≤ xhi 18 k := by
  by_cases e0 : k = 0
  · subst e0; decide
  by_cases e1 : k = 1
  · subst e1; decide
  by_cases e2 : k = 2
  · subst e2; decide
  by_cases e3 : k = 3
  · subst e3; decide
  by_cases e4 : k = 4
  · subst e4; decide
  by_cases e5 : k = 5
  · subst e5; decide
  by_cases e6 : k = 6
  · subst e6; decide
  by_cases e7 : k = 7
  · subst e7; decide
  by_cases e8 : k = 8
  · subst e8; decide
  by_cases e9 : k = 9
  · subst e9; decide
  by_cases e10 : k = 10
  · subst e10; decide
  by_cases e11 : k = 11
  · subst e11; decide
  by_cases e12 : k = 20
  · subst e12; decide
  by_cases e13 : k = 21
  · subst e13; decide
  by_cases e14 : k = 22
  · subst e14; decide
  by_cases e15 : k = 23
  · subst e15; decide
  by_cases e16 : k = 30
  · subst e16; decide
  by_cases e17 : k = 31
  · subst e17; decide
  by_cases e18 : k = 32
  · subst e18; decide
  by_cases e19 : k = 33
  · subst e19; decide
  by_cases e20 : k = 34
  · subst e20; decide
  by_cases e21 : k = 35
  · subst e21; decide
  have a1 : xlo 18 k = -2147483648 := by show (if k = 35 then 0 else (if k = 34 then 0 else (if k = 33 then 0 else (if k = 32 then 0 else (if k = 31 then 0 else (if k = 30 then 0 else (if k = 23 then 0 else (if k = 22 then 0 else (if k = 21 then 0 else (if k = 20 then 0 else (if k = 11 then 1 else (if k = 10 then 1 else (if k = 9 then 1 else (if k = 8 then 0 else (if k = 7 then 1 else (if k = 6 then 0 else (if k = 5 then 0 else (if k = 4 then 0 else (if k = 3 then 0 else (if k = 2 then 1 else (if k = 1 then 1 else (if k = 0 then 4 else (-2147483648))))))))))))))))))))))) = _; simp only [if_neg e0, if_neg e1, if_neg e2, if_neg e3, if_neg e4, if_neg e5, if_neg e6, if_neg e7, if_neg e8, if_neg e9, if_neg e10, if_neg e11, if_neg e12, if_neg e13, if_neg e14, if_neg e15, if_neg e16, if_neg e17, if_neg e18, if_neg e19, if_neg e20, if_neg e21]
  have a2 : xhi 18 k = 2147483647 := by show (if k = 35 then 9 else (if k = 34 then 9 else (if k = 33 then 9 else (if k = 32 then 9 else (if k = 31 then 9 else (if k = 30 then 9 else (if k = 23 then 15 else (if k = 22 then 15 else (if k = 21 then 15 else (if k = 20 then 15 else (if k = 11 then 6 else (if k = 10 then 4 else (if k = 9 then 12 else (if k = 8 then 9999 else (if k = 7 then 9999 else (if k = 6 then 200 else (if k = 5 then 200 else (if k = 4 then 200 else (if k = 3 then 200 else (if k = 2 then 99 else (if k = 1 then 6 else (if k = 0 then 16 else 2147483647)))))))))))))))))))))) = _; simp only [if_neg e0, if_neg e1, if_neg e2, if_neg e3, if_neg e4, if_neg e5, if_neg e6, if_neg e7, if_neg e8, if_neg e9, if_neg e10, if_neg e11, if_neg e12, if_neg e13, if_neg e14, if_neg e15, if_neg e16, if_neg e17, if_neg e18, if_neg e19, if_neg e20, if_neg e21]
  rw [a1, a2]
  exact ti_rng _
theorem x0_I19 (k : Nat) : xlo 19 k ≤ (x0G 19 k).toInt ∧ (x0G 19 k).toInt ≤ xhi 19 k := by
  exact ti_rng _
theorem x0_I20 (k : Nat) : xlo 20 k ≤ (x0G 20 k).toInt ∧ (x0G 20 k).toInt ≤ xhi 20 k := by
  exact ti_rng _
theorem x0_I21 (k : Nat) : xlo 21 k ≤ (x0G 21 k).toInt ∧ (x0G 21 k).toInt ≤ xhi 21 k := by
  exact ti_rng _
theorem x0_I22 (k : Nat) : xlo 22 k ≤ (x0G 22 k).toInt ∧ (x0G 22 k).toInt ≤ xhi 22 k := by
  exact ti_rng _
theorem x0_I23 (k : Nat) : xlo 23 k ≤ (x0G 23 k).toInt ∧ (x0G 23 k).toInt ≤ xhi 23 k := by
  exact ti_rng _
theorem x0_I24 (k : Nat) : xlo 24 k ≤ (x0G 24 k).toInt ∧ (x0G 24 k).toInt ≤ xhi 24 k := by
  exact ti_rng _
theorem x0_I25 (k : Nat) : xlo 25 k ≤ (x0G 25 k).toInt ∧ (x0G 25 k).toInt ≤ xhi 25 k := by
  exact ti_rng _
theorem x0_I26 (k : Nat) : xlo 26 k ≤ (x0G 26 k).toInt ∧ (x0G 26 k).toInt ≤ xhi 26 k := by
  exact ti_rng _
theorem x0_I27 (k : Nat) : xlo 27 k ≤ (x0G 27 k).toInt ∧ (x0G 27 k).toInt ≤ xhi 27 k := by
  exact ti_rng _
theorem x0_I28 (k : Nat) : xlo 28 k ≤ (x0G 28 k).toInt ∧ (x0G 28 k).toInt ≤ xhi 28 k := by
  exact ti_rng _
theorem x0_I29 (k : Nat) : xlo 29 k ≤ (x0G 29 k).toInt ∧ (x0G 29 k).toInt ≤ xhi 29 k := by
  exact ti_rng _
theorem x0_I30 (k : Nat) : xlo 30 k ≤ (x0G 30 k).toInt ∧ (x0G 30 k).toInt ≤ xhi 30 k := by
  exact ti_rng _
theorem x0_I31 (k : Nat) : xlo 31 k ≤ (x0G 31 k).toInt ∧ (x0G 31 k).toInt ≤ xhi 31 k := by
  exact ti_rng _
theorem x0_I32 (k : Nat) : xlo 32 k ≤ (x0G 32 k).toInt ∧ (x0G 32 k).toInt ≤ xhi 32 k := by
  exact ti_rng _
theorem x0_I33 (k : Nat) : xlo 33 k ≤ (x0G 33 k).toInt ∧ (x0G 33 k).toInt ≤ xhi 33 k := by
  exact ti_rng _
theorem x0_I34 (k : Nat) : xlo 34 k ≤ (x0G 34 k).toInt ∧ (x0G 34 k).toInt ≤ xhi 34 k := by
  exact ti_rng _
theorem x0_I35 (k : Nat) : xlo 35 k ≤ (x0G 35 k).toInt ∧ (x0G 35 k).toInt ≤ xhi 35 k := by
  exact ti_rng _
theorem x0_I36 (k : Nat) : xlo 36 k ≤ (x0G 36 k).toInt ∧ (x0G 36 k).toInt ≤ xhi 36 k := by
  exact ti_rng _
theorem x0_I37 (k : Nat) : xlo 37 k ≤ (x0G 37 k).toInt ∧ (x0G 37 k).toInt ≤ xhi 37 k := by
  exact ti_rng _
theorem x0_I38 (k : Nat) : xlo 38 k ≤ (x0G 38 k).toInt ∧ (x0G 38 k).toInt ≤ xhi 38 k := by
  show ((-9998) : Int) ≤ Int32.toInt (1000 : Int32) ∧ Int32.toInt (1000 : Int32) ≤ 5000
  decide
theorem x0_I39 (k : Nat) : xlo 39 k ≤ (x0G 39 k).toInt ∧ (x0G 39 k).toInt ≤ xhi 39 k := by
  exact ti_rng _
theorem x0_I40 (k : Nat) : xlo 40 k ≤ (x0G 40 k).toInt ∧ (x0G 40 k).toInt ≤ xhi 40 k := by
  exact ti_rng _
theorem x0_I41 (k : Nat) : xlo 41 k ≤ (x0G 41 k).toInt ∧ (x0G 41 k).toInt ≤ xhi 41 k := by
  exact ti_rng _
theorem x0_I42 (k : Nat) : xlo 42 k ≤ (x0G 42 k).toInt ∧ (x0G 42 k).toInt ≤ xhi 42 k := by
  exact ti_rng _
theorem x0_I43 (k : Nat) : xlo 43 k ≤ (x0G 43 k).toInt ∧ (x0G 43 k).toInt ≤ xhi 43 k := by
  exact ti_rng _
theorem x0_I44 (k : Nat) : xlo 44 k ≤ (x0G 44 k).toInt ∧ (x0G 44 k).toInt ≤ xhi 44 k := by
  show (0 : Int) ≤ Int32.toInt (0 : Int32) ∧ Int32.toInt (0 : Int32) ≤ 15
  decide
theorem x0_I45 (k : Nat) : xlo 45 k ≤ (x0G 45 k).toInt ∧ (x0G 45 k).toInt ≤ xhi 45 k := by
  show ((-9998) : Int) ≤ Int32.toInt (0 : Int32) ∧ Int32.toInt (0 : Int32) ≤ 5000
  decide
theorem x0_I46 (k : Nat) : xlo 46 k ≤ (x0G 46 k).toInt ∧ (x0G 46 k).toInt ≤ xhi 46 k := by
  exact ti_rng _
theorem x0_I47 (k : Nat) : xlo 47 k ≤ (x0G 47 k).toInt ∧ (x0G 47 k).toInt ≤ xhi 47 k := by
  exact ti_rng _
theorem x0_I48 (k : Nat) : xlo 48 k ≤ (x0G 48 k).toInt ∧ (x0G 48 k).toInt ≤ xhi 48 k := by
  exact ti_rng _
theorem x0_I49 (k : Nat) : xlo 49 k ≤ (x0G 49 k).toInt ∧ (x0G 49 k).toInt ≤ xhi 49 k := by
  exact ti_rng _
theorem x0_I50 (k : Nat) : xlo 50 k ≤ (x0G 50 k).toInt ∧ (x0G 50 k).toInt ≤ xhi 50 k := by
  exact ti_rng _
theorem x0_I51 (k : Nat) : xlo 51 k ≤ (x0G 51 k).toInt ∧ (x0G 51 k).toInt ≤ xhi 51 k := by
  exact ti_rng _
theorem x0_I52 (k : Nat) : xlo 52 k ≤ (x0G 52 k).toInt ∧ (x0G 52 k).toInt ≤ xhi 52 k := by
  exact ti_rng _
theorem x0_I53 (k : Nat) : xlo 53 k ≤ (x0G 53 k).toInt ∧ (x0G 53 k).toInt ≤ xhi 53 k := by
  exact ti_rng _
theorem x0_I54 (k : Nat) : xlo 54 k ≤ (x0G 54 k).toInt ∧ (x0G 54 k).toInt ≤ xhi 54 k := by
  exact ti_rng _
theorem x0_I55 (k : Nat) : xlo 55 k ≤ (x0G 55 k).toInt ∧ (x0G 55 k).toInt ≤ xhi 55 k := by
  exact ti_rng _
theorem x0_I56 (k : Nat) : xlo 56 k ≤ (x0G 56 k).toInt ∧ (x0G 56 k).toInt ≤ xhi 56 k := by
  exact ti_rng _
theorem x0_I57 (k : Nat) : xlo 57 k ≤ (x0G 57 k).toInt ∧ (x0G 57 k).toInt ≤ xhi 57 k := by
  exact ti_rng _
theorem x0_I58 (k : Nat) : xlo 58 k ≤ (x0G 58 k).toInt ∧ (x0G 58 k).toInt ≤ xhi 58 k := by
  exact ti_rng _
theorem x0_I59 (k : Nat) : xlo 59 k ≤ (x0G 59 k).toInt ∧ (x0G 59 k).toInt ≤ xhi 59 k := by
  show ((-9998) : Int) ≤ Int32.toInt (0 : Int32) ∧ Int32.toInt (0 : Int32) ≤ 5000
  decide
theorem x0_I60 (k : Nat) : xlo 60 k ≤ (x0G 60 k).toInt ∧ (x0G 60 k).toInt ≤ xhi 60 k := by
  show ((-9998) : Int) ≤ Int32.toInt (0 : Int32) ∧ Int32.toInt (0 : Int32) ≤ 5000
  decide
theorem x0_I61 (k : Nat) : xlo 61 k ≤ (x0G 61 k).toInt ∧ (x0G 61 k).toInt ≤ xhi 61 k := by
  show ((-9998) : Int) ≤ Int32.toInt (0 : Int32) ∧ Int32.toInt (0 : Int32) ≤ 5000
  decide
theorem x0_I62 (k : Nat) : xlo 62 k ≤ (x0G 62 k).toInt ∧ (x0G 62 k).toInt ≤ xhi 62 k := by
  show ((-9998) : Int) ≤ Int32.toInt (0 : Int32) ∧ Int32.toInt (0 : Int32) ≤ 5000
  decide
theorem x0_I63 (k : Nat) : xlo 63 k ≤ (x0G 63 k).toInt ∧ (x0G 63 k).toInt ≤ xhi 63 k := by
  show ((-9998) : Int) ≤ Int32.toInt (0 : Int32) ∧ Int32.toInt (0 : Int32) ≤ 5000
  decide
theorem x0_I64 (k : Nat) : xlo 64 k ≤ (x0G 64 k).toInt ∧ (x0G 64 k).toInt ≤ xhi 64 k := by
  show ((-9998) : Int) ≤ Int32.toInt (0 : Int32) ∧ Int32.toInt (0 : Int32) ≤ 5000
  decide
theorem x0_I65 (k : Nat) : xlo 65 k ≤ (x0G 65 k).toInt ∧ (x0G 65 k).toInt ≤ xhi 65 k := by
  show (0 : Int) ≤ Int32.toInt (0 : Int32) ∧ Int32.toInt (0 : Int32) ≤ 30000
  decide
theorem x0_I66 (k : Nat) : xlo 66 k ≤ (x0G 66 k).toInt ∧ (x0G 66 k).toInt ≤ xhi 66 k := by
  exact ti_rng _
theorem x0_I67 (k : Nat) : xlo 67 k ≤ (x0G 67 k).toInt ∧ (x0G 67 k).toInt ≤ xhi 67 k := by
  exact ti_rng _
theorem x0_I68 (k : Nat) : xlo 68 k ≤ (x0G 68 k).toInt ∧ (x0G 68 k).toInt ≤ xhi 68 k := by
  show (1000 : Int) ≤ Int32.toInt (1000 : Int32) ∧ Int32.toInt (1000 : Int32) ≤ 1000
  decide
theorem x0_I69 (k : Nat) : xlo 69 k ≤ (x0G 69 k).toInt ∧ (x0G 69 k).toInt ≤ xhi 69 k := by
  exact ti_rng _
theorem x0_I70 (k : Nat) : xlo 70 k ≤ (x0G 70 k).toInt ∧ (x0G 70 k).toInt ≤ xhi 70 k := by
  exact ti_rng _
theorem x0_I71 (k : Nat) : xlo 71 k ≤ (x0G 71 k).toInt ∧ (x0G 71 k).toInt ≤ xhi 71 k := by
  exact ti_rng _
theorem x0_I72 (k : Nat) : xlo 72 k ≤ (x0G 72 k).toInt ∧ (x0G 72 k).toInt ≤ xhi 72 k := by
  exact ti_rng _
theorem x0_I73 (k : Nat) : xlo 73 k ≤ (x0G 73 k).toInt ∧ (x0G 73 k).toInt ≤ xhi 73 k := by
  exact ti_rng _
theorem x0_I74 (k : Nat) : xlo 74 k ≤ (x0G 74 k).toInt ∧ (x0G 74 k).toInt ≤ xhi 74 k := by
  exact ti_rng _
theorem x0_I75 (k : Nat) : xlo 75 k ≤ (x0G 75 k).toInt ∧ (x0G 75 k).toInt ≤ xhi 75 k := by
  exact ti_rng _
theorem x0_I76 (k : Nat) : xlo 76 k ≤ (x0G 76 k).toInt ∧ (x0G 76 k).toInt ≤ xhi 76 k := by
  exact ti_rng _
theorem x0_I77 (k : Nat) : xlo 77 k ≤ (x0G 77 k).toInt ∧ (x0G 77 k).toInt ≤ xhi 77 k := by
  exact ti_rng _
theorem x0_I78 (k : Nat) : xlo 78 k ≤ (x0G 78 k).toInt ∧ (x0G 78 k).toInt ≤ xhi 78 k := by
  exact ti_rng _
theorem x0_I79 (k : Nat) : xlo 79 k ≤ (x0G 79 k).toInt ∧ (x0G 79 k).toInt ≤ xhi 79 k := by
  exact ti_rng _
theorem x0_I80 (k : Nat) : xlo 80 k ≤ (x0G 80 k).toInt ∧ (x0G 80 k).toInt ≤ xhi 80 k := by
  exact ti_rng _
theorem x0_I81 (k : Nat) : xlo 81 k ≤ (x0G 81 k).toInt ∧ (x0G 81 k).toInt ≤ xhi 81 k := by
  exact ti_rng _
theorem x0_I82 (k : Nat) : xlo 82 k ≤ (x0G 82 k).toInt ∧ (x0G 82 k).toInt ≤ xhi 82 k := by
  exact ti_rng _
theorem x0_I83 (k : Nat) : xlo 83 k ≤ (x0G 83 k).toInt ∧ (x0G 83 k).toInt ≤ xhi 83 k := by
  exact ti_rng _
theorem x0_I84 (k : Nat) : xlo 84 k ≤ (x0G 84 k).toInt ∧ (x0G 84 k).toInt ≤ xhi 84 k := by
  exact ti_rng _
theorem x0_I85 (k : Nat) : xlo 85 k ≤ (x0G 85 k).toInt ∧ (x0G 85 k).toInt ≤ xhi 85 k := by
  exact ti_rng _
theorem x0_I86 (k : Nat) : xlo 86 k ≤ (x0G 86 k).toInt ∧ (x0G 86 k).toInt ≤ xhi 86 k := by
  exact ti_rng _
theorem x0_I87 (k : Nat) : xlo 87 k ≤ (x0G 87 k).toInt ∧ (x0G 87 k).toInt ≤ xhi 87 k := by
  exact ti_rng _
theorem x0_I88 (k : Nat) : xlo 88 k ≤ (x0G 88 k).toInt ∧ (x0G 88 k).toInt ≤ xhi 88 k := by
  show ((-9999) : Int) ≤ Int32.toInt (0 : Int32) ∧ Int32.toInt (0 : Int32) ≤ 9999
  decide
theorem x0_I89 (k : Nat) : xlo 89 k ≤ (x0G 89 k).toInt ∧ (x0G 89 k).toInt ≤ xhi 89 k := by
  show ((-9999) : Int) ≤ Int32.toInt (0 : Int32) ∧ Int32.toInt (0 : Int32) ≤ 9999
  decide
theorem x0_I90 (k : Nat) : xlo 90 k ≤ (x0G 90 k).toInt ∧ (x0G 90 k).toInt ≤ xhi 90 k := by
  exact ti_rng _
set_option maxRecDepth 20000 in
theorem x0_I : xI x0G := fun j k => by
  rcases (show j = 0 ∨ j = 1 ∨ j = 2 ∨ j = 3 ∨ j = 4 ∨ j = 5 ∨ j = 6 ∨ j = 7 ∨ j = 8 ∨ j = 9 ∨ j = 10 ∨ j = 11 ∨ j = 12 ∨ j = 13 ∨ j = 14 ∨ j = 15 ∨ j = 16 ∨ j = 17 ∨ j = 18 ∨ j = 19 ∨ j = 20 ∨ j = 21 ∨ j = 22 ∨ j = 23 ∨ j = 24 ∨ j = 25 ∨ j = 26 ∨ j = 27 ∨ j = 28 ∨ j = 29 ∨ j = 30 ∨ j = 31 ∨ j = 32 ∨ j = 33 ∨ j = 34 ∨ j = 35 ∨ j = 36 ∨ j = 37 ∨ j = 38 ∨ j = 39 ∨ j = 40 ∨ j = 41 ∨ j = 42 ∨ j = 43 ∨ j = 44 ∨ j = 45 ∨ j = 46 ∨ j = 47 ∨ j = 48 ∨ j = 49 ∨ j = 50 ∨ j = 51 ∨ j = 52 ∨ j = 53 ∨ j = 54 ∨ j = 55 ∨ j = 56 ∨ j = 57 ∨ j = 58 ∨ j = 59 ∨ j = 60 ∨ j = 61 ∨ j = 62 ∨ j = 63 ∨ j = 64 ∨ j = 65 ∨ j = 66 ∨ j = 67 ∨ j = 68 ∨ j = 69 ∨ j = 70 ∨ j = 71 ∨ j = 72 ∨ j = 73 ∨ j = 74 ∨ j = 75 ∨ j = 76 ∨ j = 77 ∨ j = 78 ∨ j = 79 ∨ j = 80 ∨ j = 81 ∨ j = 82 ∨ j = 83 ∨ j = 84 ∨ j = 85 ∨ j = 86 ∨ j = 87 ∨ j = 88 ∨ j = 89 ∨ j = 90 ∨ 91 ≤ j by omega) with rfl | rfl | rfl | rfl | rfl | rfl | rfl | rfl | rfl | rfl | rfl | rfl | rfl | rfl | rfl | rfl | rfl | rfl | rfl | rfl | rfl | rfl | rfl | rfl | rfl | rfl | rfl | rfl | rfl | rfl | rfl | rfl | rfl | rfl | rfl | rfl | rfl | rfl | rfl | rfl | rfl | rfl | rfl | rfl | rfl | rfl | rfl | rfl | rfl | rfl | rfl | rfl | rfl | rfl | rfl | rfl | rfl | rfl | rfl | rfl | rfl | rfl | rfl | rfl | rfl | rfl | rfl | rfl | rfl | rfl | rfl | rfl | rfl | rfl | rfl | rfl | rfl | rfl | rfl | rfl | rfl | rfl | rfl | rfl | rfl | rfl | rfl | rfl | rfl | rfl | rfl | h
  · exact x0_I0 k
  · exact x0_I1 k
  · exact x0_I2 k
  · exact x0_I3 k
  · exact x0_I4 k
  · exact x0_I5 k
  · exact x0_I6 k
  · exact x0_I7 k
  · exact x0_I8 k
  · exact x0_I9 k
  · exact x0_I10 k
  · exact x0_I11 k
  · exact x0_I12 k
  · exact x0_I13 k
  · exact x0_I14 k
  · exact x0_I15 k
  · exact x0_I16 k
  · exact x0_I17 k
  · exact x0_I18 k
  · exact x0_I19 k
  · exact x0_I20 k
  · exact x0_I21 k
  · exact x0_I22 k
  · exact x0_I23 k
  · exact x0_I24 k
  · exact x0_I25 k
  · exact x0_I26 k
  · exact x0_I27 k
  · exact x0_I28 k
  · exact x0_I29 k
  · exact x0_I30 k
  · exact x0_I31 k
  · exact x0_I32 k
  · exact x0_I33 k
  · exact x0_I34 k
  · exact x0_I35 k
  · exact x0_I36 k
  · exact x0_I37 k
  · exact x0_I38 k
  · exact x0_I39 k
  · exact x0_I40 k
  · exact x0_I41 k
  · exact x0_I42 k
  · exact x0_I43 k
  · exact x0_I44 k
  · exact x0_I45 k
  · exact x0_I46 k
  · exact x0_I47 k
  · exact x0_I48 k
  · exact x0_I49 k
  · exact x0_I50 k
  · exact x0_I51 k
  · exact x0_I52 k
  · exact x0_I53 k
  · exact x0_I54 k
  · exact x0_I55 k
  · exact x0_I56 k
  · exact x0_I57 k
  · exact x0_I58 k
  · exact x0_I59 k
  · exact x0_I60 k
  · exact x0_I61 k
  · exact x0_I62 k
  · exact x0_I63 k
  · exact x0_I64 k
  · exact x0_I65 k
  · exact x0_I66 k
  · exact x0_I67 k
  · exact x0_I68 k
  · exact x0_I69 k
  · exact x0_I70 k
  · exact x0_I71 k
  · exact x0_I72 k
  · exact x0_I73 k
  · exact x0_I74 k
  · exact x0_I75 k
  · exact x0_I76 k
  · exact x0_I77 k
  · exact x0_I78 k
  · exact x0_I79 k
  · exact x0_I80 k
  · exact x0_I81 k
  · exact x0_I82 k
  · exact x0_I83 k
  · exact x0_I84 k
  · exact x0_I85 k
  · exact x0_I86 k
  · exact x0_I87 k
  · exact x0_I88 k
  · exact x0_I89 k
  · exact x0_I90 k
  · have a1 : xlo j k = (-2147483648) := by unfold xlo; rw [if_neg (show ¬ j < 45 by omega), if_neg (show ¬ j < 68 by omega), if_neg (show ¬ j < 79 by omega), if_neg (show ¬ j < 85 by omega), if_neg (show ¬ j < 88 by omega), if_neg (show ¬ j < 89 by omega), if_neg (show ¬ j < 90 by omega)]
    have a2 : xhi j k = 2147483647 := by unfold xhi; rw [if_neg (show ¬ j < 45 by omega), if_neg (show ¬ j < 68 by omega), if_neg (show ¬ j < 79 by omega), if_neg (show ¬ j < 85 by omega), if_neg (show ¬ j < 88 by omega), if_neg (show ¬ j < 89 by omega), if_neg (show ¬ j < 90 by omega)]
    rw [a1, a2]
    exact ti_rng _
def y0G : gS := fun j => (if j < 24 then (if j < 12 then (if j < 6 then (if j < 3 then (if j < 1 then (fun k => if k = 20 then 5 else if k = 9 then (-1) else 0) else (if j < 2 then (fun k => 0) else (fun _ => 0))) else (if j < 4 then gz_untold else (if j < 5 then gz_untold else (upd (fun _ => 0) 0 0)))) else (if j < 9 then (if j < 7 then (upd (fun _ => 0) 0 0) else (if j < 8 then (upd (fun _ => 0) 0 0) else (upd (fun _ => 0) 0 0))) else (if j < 10 then (fun _ => 0) else (if j < 11 then (upd (upd (upd (upd (upd (upd (fun _ => 0) 240 1) 320 0) 400 0) 0 1) 80 0) 160 0) else (upd (upd (upd (upd (upd (upd (fun _ => 0) 240 0) 320 0) 400 0) 0 0) 80 0) 160 0))))) else (if j < 18 then (if j < 15 then (if j < 13 then (upd (upd (upd (upd (upd (upd (upd (upd (upd (fun _ => 0) 3 0) 4 0) 5 0) 3 1) 4 1) 5 1) 0 1) 1 1) 2 1) else (if j < 14 then (fun _ => 0) else (fun _ => 1000))) else (if j < 16 then (fun _ => (-1)) else (if j < 17 then (fun _ => 0) else (fun _ => 0)))) else (if j < 21 then (if j < 19 then (fun _ => 0) else (if j < 20 then (fun _ => 0) else (fun _ => 0))) else (if j < 22 then (fun _ => 0) else (if j < 23 then (fun _ => 0) else (fun _ => 0)))))) else (if j < 36 then (if j < 30 then (if j < 27 then (if j < 25 then (fun _ => 0) else (if j < 26 then (fun _ => 0) else (fun _ => 0))) else (if j < 28 then (fun _ => 0) else (if j < 29 then (fun _ => 0) else (fun _ => 0)))) else (if j < 33 then (if j < 31 then (fun _ => 0) else (if j < 32 then (fun _ => 0) else (fun _ => 0))) else (if j < 34 then (fun _ => 0) else (if j < 35 then (fun _ => 0) else (fun _ => 0))))) else (if j < 42 then (if j < 39 then (if j < 37 then (fun _ => 0) else (if j < 38 then (fun _ => 0) else (fun _ => 0))) else (if j < 40 then (fun _ => 0) else (if j < 41 then (fun _ => 0) else (fun _ => 0)))) else (if j < 45 then (if j < 43 then (fun _ => 0) else (if j < 44 then (fun _ => 0) else (fun _ => 0))) else (if j < 46 then (fun _ => 0) else (if j < 47 then (fun _ => 0) else (fun _ => 0)))))))
set_option maxRecDepth 20000 in
theorem yW_list {K : Nat → ClassId} {a : Nat → Nat} {G : gS} : yW K a G = [(a 0, yC K a 0 (G 0)), (a 1, yC K a 1 (G 1)), (a 2, yC K a 2 (G 2)), (a 3, yC K a 3 (G 3)), (a 4, yC K a 4 (G 4)), (a 5, yC K a 5 (G 5)), (a 6, yC K a 6 (G 6)), (a 7, yC K a 7 (G 7)), (a 8, yC K a 8 (G 8)), (a 9, yC K a 9 (G 9)), (a 10, yC K a 10 (G 10)), (a 11, yC K a 11 (G 11)), (a 12, yC K a 12 (G 12)), (a 13, yC K a 13 (G 13)), (a 14, yC K a 14 (G 14)), (a 15, yC K a 15 (G 15)), (a 16, yC K a 16 (G 16)), (a 17, yC K a 17 (G 17)), (a 18, yC K a 18 (G 18)), (a 19, yC K a 19 (G 19)), (a 20, yC K a 20 (G 20)), (a 21, yC K a 21 (G 21)), (a 22, yC K a 22 (G 22)), (a 23, yC K a 23 (G 23)), (a 24, yC K a 24 (G 24)), (a 25, yC K a 25 (G 25)), (a 26, yC K a 26 (G 26)), (a 27, yC K a 27 (G 27)), (a 28, yC K a 28 (G 28)), (a 29, yC K a 29 (G 29)), (a 30, yC K a 30 (G 30)), (a 31, yC K a 31 (G 31)), (a 32, yC K a 32 (G 32)), (a 33, yC K a 33 (G 33)), (a 34, yC K a 34 (G 34)), (a 35, yC K a 35 (G 35)), (a 36, yC K a 36 (G 36)), (a 37, yC K a 37 (G 37)), (a 38, yC K a 38 (G 38)), (a 39, yC K a 39 (G 39)), (a 40, yC K a 40 (G 40)), (a 41, yC K a 41 (G 41)), (a 42, yC K a 42 (G 42)), (a 43, yC K a 43 (G 43)), (a 44, yC K a 44 (G 44)), (a 45, yC K a 45 (G 45)), (a 46, yC K a 46 (G 46)), (a 47, yC K a 47 (G 47))] := rfl
theorem y0_I0 (k : Nat) : ylo 0 k ≤ (y0G 0 k).toInt ∧ (y0G 0 k).toInt ≤ yhi 0 k := by
  by_cases e0 : k = 2
  · subst e0; decide
  by_cases e1 : k = 3
  · subst e1; decide
  by_cases e2 : k = 4
  · subst e2; decide
  by_cases e3 : k = 5
  · subst e3; decide
  by_cases e4 : k = 6
  · subst e4; decide
  by_cases e5 : k = 7
  · subst e5; decide
  by_cases e6 : k = 9
  · subst e6; decide
  by_cases e7 : k = 20
  · subst e7; decide
  by_cases e8 : k = 21
  · subst e8; decide
  by_cases e9 : k = 28
  · subst e9; decide
  by_cases e10 : k = 29
  · subst e10; decide
  by_cases e11 : k = 32
  · subst e11; decide
  by_cases e12 : k = 37
  · subst e12; decide
  by_cases e13 : k = 42
  · subst e13; decide
  by_cases e14 : k = 43
  · subst e14; decide
  by_cases e15 : k = 45
  · subst e15; decide
  by_cases e16 : k = 53
  · subst e16; decide
  by_cases e17 : k = 55
  · subst e17; decide
  by_cases e18 : k = 56
  · subst e18; decide
  by_cases e19 : k = 57
  · subst e19; decide
  by_cases e20 : k = 72
  · subst e20; decide
  have a1 : ylo 0 k = -2147483648 := by show (if k = 72 then 0 else (if k = 57 then 0 else (if k = 56 then 0 else (if k = 55 then 0 else (if k = 53 then 0 else (if k = 45 then 0 else (if k = 43 then 0 else (if k = 42 then 0 else (if k = 37 then 0 else (if k = 32 then 0 else (if k = 29 then 0 else (if k = 28 then 0 else (if k = 21 then 0 else (if k = 20 then 0 else (if k = 7 then 0 else (if k = 6 then 0 else (if k = 5 then 0 else (if k = 4 then 0 else (if k = 3 then 0 else (if k = 2 then 0 else (-2147483648))))))))))))))))))))) = _; simp only [if_neg e0, if_neg e1, if_neg e2, if_neg e3, if_neg e4, if_neg e5, if_neg e6, if_neg e7, if_neg e8, if_neg e9, if_neg e10, if_neg e11, if_neg e12, if_neg e13, if_neg e14, if_neg e15, if_neg e16, if_neg e17, if_neg e18, if_neg e19, if_neg e20]
  have a2 : yhi 0 k = 2147483647 := by show (if k = 72 then 150 else (if k = 57 then 20 else (if k = 56 then 30 else (if k = 55 then 10 else (if k = 53 then 1 else (if k = 45 then 5 else (if k = 43 then 1 else (if k = 42 then 400 else (if k = 37 then 1 else (if k = 32 then 7 else (if k = 29 then 200 else (if k = 28 then 30000 else (if k = 21 then 12 else (if k = 20 then 5 else (if k = 7 then 9999 else (if k = 6 then 4 else (if k = 5 then 1000 else (if k = 4 then 1000 else (if k = 3 then 1000 else (if k = 2 then 1000 else 2147483647)))))))))))))))))))) = _; simp only [if_neg e0, if_neg e1, if_neg e2, if_neg e3, if_neg e4, if_neg e5, if_neg e6, if_neg e7, if_neg e8, if_neg e9, if_neg e10, if_neg e11, if_neg e12, if_neg e13, if_neg e14, if_neg e15, if_neg e16, if_neg e17, if_neg e18, if_neg e19, if_neg e20]
  rw [a1, a2]
  exact ti_rng _
theorem y0_I1 (k : Nat) : ylo 1 k ≤ (y0G 1 k).toInt ∧ (y0G 1 k).toInt ≤ yhi 1 k := by
  exact ti_rng _
theorem y0_I2 (k : Nat) : ylo 2 k ≤ (y0G 2 k).toInt ∧ (y0G 2 k).toInt ≤ yhi 2 k := by
  show ((-128) : Int) ≤ Int32.toInt (0 : Int32) ∧ Int32.toInt (0 : Int32) ≤ 127
  decide
theorem y0_I3 (k : Nat) : ylo 3 k ≤ (y0G 3 k).toInt ∧ (y0G 3 k).toInt ≤ yhi 3 k := by
  by_cases e0 : k = 0
  · subst e0; decide
  by_cases e1 : k = 1
  · subst e1; decide
  by_cases e2 : k = 2
  · subst e2; decide
  by_cases e3 : k = 3
  · subst e3; decide
  by_cases e4 : k = 4
  · subst e4; decide
  by_cases e5 : k = 5
  · subst e5; decide
  by_cases e6 : k = 6
  · subst e6; decide
  by_cases e7 : k = 7
  · subst e7; decide
  by_cases e8 : k = 8
  · subst e8; decide
  by_cases e9 : k = 9
  · subst e9; decide
  by_cases e10 : k = 10
  · subst e10; decide
  by_cases e11 : k = 11
  · subst e11; decide
  have a1 : ylo 3 k = -2147483648 := by show (if k = 11 then 1 else (if k = 10 then 1 else (if k = 9 then 1 else (if k = 8 then 0 else (if k = 7 then 1 else (if k = 6 then 0 else (if k = 5 then 0 else (if k = 4 then 0 else (if k = 3 then 0 else (if k = 2 then 1 else (if k = 1 then 1 else (if k = 0 then 4 else (-2147483648))))))))))))) = _; simp only [if_neg e0, if_neg e1, if_neg e2, if_neg e3, if_neg e4, if_neg e5, if_neg e6, if_neg e7, if_neg e8, if_neg e9, if_neg e10, if_neg e11]
  have a2 : yhi 3 k = 2147483647 := by show (if k = 11 then 6 else (if k = 10 then 4 else (if k = 9 then 12 else (if k = 8 then 9999 else (if k = 7 then 9999 else (if k = 6 then 200 else (if k = 5 then 200 else (if k = 4 then 200 else (if k = 3 then 200 else (if k = 2 then 99 else (if k = 1 then 6 else (if k = 0 then 16 else 2147483647)))))))))))) = _; simp only [if_neg e0, if_neg e1, if_neg e2, if_neg e3, if_neg e4, if_neg e5, if_neg e6, if_neg e7, if_neg e8, if_neg e9, if_neg e10, if_neg e11]
  rw [a1, a2]
  exact ti_rng _
theorem y0_I4 (k : Nat) : ylo 4 k ≤ (y0G 4 k).toInt ∧ (y0G 4 k).toInt ≤ yhi 4 k := by
  by_cases e0 : k = 0
  · subst e0; decide
  by_cases e1 : k = 1
  · subst e1; decide
  by_cases e2 : k = 2
  · subst e2; decide
  by_cases e3 : k = 3
  · subst e3; decide
  by_cases e4 : k = 4
  · subst e4; decide
  by_cases e5 : k = 5
  · subst e5; decide
  by_cases e6 : k = 6
  · subst e6; decide
  by_cases e7 : k = 7
  · subst e7; decide
  by_cases e8 : k = 8
  · subst e8; decide
  by_cases e9 : k = 9
  · subst e9; decide
  by_cases e10 : k = 10
  · subst e10; decide
  by_cases e11 : k = 11
  · subst e11; decide
  have a1 : ylo 4 k = -2147483648 := by show (if k = 11 then 1 else (if k = 10 then 1 else (if k = 9 then 1 else (if k = 8 then 0 else (if k = 7 then 1 else (if k = 6 then 0 else (if k = 5 then 0 else (if k = 4 then 0 else (if k = 3 then 0 else (if k = 2 then 1 else (if k = 1 then 1 else (if k = 0 then 4 else (-2147483648))))))))))))) = _; simp only [if_neg e0, if_neg e1, if_neg e2, if_neg e3, if_neg e4, if_neg e5, if_neg e6, if_neg e7, if_neg e8, if_neg e9, if_neg e10, if_neg e11]
  have a2 : yhi 4 k = 2147483647 := by show (if k = 11 then 6 else (if k = 10 then 4 else (if k = 9 then 12 else (if k = 8 then 9999 else (if k = 7 then 9999 else (if k = 6 then 200 else (if k = 5 then 200 else (if k = 4 then 200 else (if k = 3 then 200 else (if k = 2 then 99 else (if k = 1 then 6 else (if k = 0 then 16 else 2147483647)))))))))))) = _; simp only [if_neg e0, if_neg e1, if_neg e2, if_neg e3, if_neg e4, if_neg e5, if_neg e6, if_neg e7, if_neg e8, if_neg e9, if_neg e10, if_neg e11]
  rw [a1, a2]
  exact ti_rng _
theorem y0_I5 (k : Nat) : ylo 5 k ≤ (y0G 5 k).toInt ∧ (y0G 5 k).toInt ≤ yhi 5 k := by
  by_cases e0 : k = 0
  · subst e0; decide
  show (0 : Int) ≤ Int32.toInt ((upd (fun _ => 0) 0 0) k) ∧ Int32.toInt ((upd (fun _ => 0) 0 0) k) ≤ 15
  simp only [upd, if_neg e0]
  decide
theorem y0_I6 (k : Nat) : ylo 6 k ≤ (y0G 6 k).toInt ∧ (y0G 6 k).toInt ≤ yhi 6 k := by
  by_cases e0 : k = 0
  · subst e0; decide
  show (0 : Int) ≤ Int32.toInt ((upd (fun _ => 0) 0 0) k) ∧ Int32.toInt ((upd (fun _ => 0) 0 0) k) ≤ 15
  simp only [upd, if_neg e0]
  decide
theorem y0_I7 (k : Nat) : ylo 7 k ≤ (y0G 7 k).toInt ∧ (y0G 7 k).toInt ≤ yhi 7 k := by
  by_cases e0 : k = 0
  · subst e0; decide
  show (0 : Int) ≤ Int32.toInt ((upd (fun _ => 0) 0 0) k) ∧ Int32.toInt ((upd (fun _ => 0) 0 0) k) ≤ 9
  simp only [upd, if_neg e0]
  decide
theorem y0_I8 (k : Nat) : ylo 8 k ≤ (y0G 8 k).toInt ∧ (y0G 8 k).toInt ≤ yhi 8 k := by
  by_cases e0 : k = 0
  · subst e0; decide
  show (0 : Int) ≤ Int32.toInt ((upd (fun _ => 0) 0 0) k) ∧ Int32.toInt ((upd (fun _ => 0) 0 0) k) ≤ 9
  simp only [upd, if_neg e0]
  decide
theorem y0_I9 (k : Nat) : ylo 9 k ≤ (y0G 9 k).toInt ∧ (y0G 9 k).toInt ≤ yhi 9 k := by
  show (0 : Int) ≤ Int32.toInt (0 : Int32) ∧ Int32.toInt (0 : Int32) ≤ 1
  decide
theorem y0_I10 (k : Nat) : ylo 10 k ≤ (y0G 10 k).toInt ∧ (y0G 10 k).toInt ≤ yhi 10 k := by
  by_cases e0 : k = 0
  · subst e0; decide
  by_cases e1 : k = 80
  · subst e1; decide
  by_cases e2 : k = 160
  · subst e2; decide
  by_cases e3 : k = 240
  · subst e3; decide
  by_cases e4 : k = 320
  · subst e4; decide
  by_cases e5 : k = 400
  · subst e5; decide
  show (0 : Int) ≤ Int32.toInt ((upd (upd (upd (upd (upd (upd (fun _ => 0) 240 1) 320 0) 400 0) 0 1) 80 0) 160 0) k) ∧ Int32.toInt ((upd (upd (upd (upd (upd (upd (fun _ => 0) 240 1) 320 0) 400 0) 0 1) 80 0) 160 0) k) ≤ 2
  simp only [upd, if_neg e0, if_neg e1, if_neg e2, if_neg e3, if_neg e4, if_neg e5]
  decide
theorem y0_I11 (k : Nat) : ylo 11 k ≤ (y0G 11 k).toInt ∧ (y0G 11 k).toInt ≤ yhi 11 k := by
  by_cases e0 : k = 0
  · subst e0; decide
  by_cases e1 : k = 80
  · subst e1; decide
  by_cases e2 : k = 160
  · subst e2; decide
  by_cases e3 : k = 240
  · subst e3; decide
  by_cases e4 : k = 320
  · subst e4; decide
  by_cases e5 : k = 400
  · subst e5; decide
  show (0 : Int) ≤ Int32.toInt ((upd (upd (upd (upd (upd (upd (fun _ => 0) 240 0) 320 0) 400 0) 0 0) 80 0) 160 0) k) ∧ Int32.toInt ((upd (upd (upd (upd (upd (upd (fun _ => 0) 240 0) 320 0) 400 0) 0 0) 80 0) 160 0) k) ≤ 9999
  simp only [upd, if_neg e0, if_neg e1, if_neg e2, if_neg e3, if_neg e4, if_neg e5]
  decide
theorem y0_I12 (k : Nat) : ylo 12 k ≤ (y0G 12 k).toInt ∧ (y0G 12 k).toInt ≤ yhi 12 k := by
  by_cases e0 : k = 0
  · subst e0; decide
  by_cases e1 : k = 1
  · subst e1; decide
  by_cases e2 : k = 2
  · subst e2; decide
  by_cases e3 : k = 3
  · subst e3; decide
  by_cases e4 : k = 4
  · subst e4; decide
  by_cases e5 : k = 5
  · subst e5; decide
  show (0 : Int) ≤ Int32.toInt ((upd (upd (upd (upd (upd (upd (upd (upd (upd (fun _ => 0) 3 0) 4 0) 5 0) 3 1) 4 1) 5 1) 0 1) 1 1) 2 1) k) ∧ Int32.toInt ((upd (upd (upd (upd (upd (upd (upd (upd (upd (fun _ => 0) 3 0) 4 0) 5 0) 3 1) 4 1) 5 1) 0 1) 1 1) 2 1) k) ≤ 80
  simp only [upd, if_neg e0, if_neg e1, if_neg e2, if_neg e3, if_neg e4, if_neg e5]
  decide
theorem y0_I13 (k : Nat) : ylo 13 k ≤ (y0G 13 k).toInt ∧ (y0G 13 k).toInt ≤ yhi 13 k := by
  exact ti_rng _
theorem y0_I14 (k : Nat) : ylo 14 k ≤ (y0G 14 k).toInt ∧ (y0G 14 k).toInt ≤ yhi 14 k := by
  show ((-9998) : Int) ≤ Int32.toInt (1000 : Int32) ∧ Int32.toInt (1000 : Int32) ≤ 5000
  decide
theorem y0_I15 (k : Nat) : ylo 15 k ≤ (y0G 15 k).toInt ∧ (y0G 15 k).toInt ≤ yhi 15 k := by
  exact ti_rng _
theorem y0_I16 (k : Nat) : ylo 16 k ≤ (y0G 16 k).toInt ∧ (y0G 16 k).toInt ≤ yhi 16 k := by
  exact ti_rng _
theorem y0_I17 (k : Nat) : ylo 17 k ≤ (y0G 17 k).toInt ∧ (y0G 17 k).toInt ≤ yhi 17 k := by
  exact ti_rng _
theorem y0_I18 (k : Nat) : ylo 18 k ≤ (y0G 18 k).toInt ∧ (y0G 18 k).toInt ≤ yhi 18 k := by
  exact ti_rng _
theorem y0_I19 (k : Nat) : ylo 19 k ≤ (y0G 19 k).toInt ∧ (y0G 19 k).toInt ≤ yhi 19 k := by
  show ((-9998) : Int) ≤ Int32.toInt (0 : Int32) ∧ Int32.toInt (0 : Int32) ≤ 5000
  decide
theorem y0_I20 (k : Nat) : ylo 20 k ≤ (y0G 20 k).toInt ∧ (y0G 20 k).toInt ≤ yhi 20 k := by
  show (0 : Int) ≤ Int32.toInt (0 : Int32) ∧ Int32.toInt (0 : Int32) ≤ 30000
  decide
theorem y0_I21 (k : Nat) : ylo 21 k ≤ (y0G 21 k).toInt ∧ (y0G 21 k).toInt ≤ yhi 21 k := by
  exact ti_rng _
theorem y0_I22 (k : Nat) : ylo 22 k ≤ (y0G 22 k).toInt ∧ (y0G 22 k).toInt ≤ yhi 22 k := by
  exact ti_rng _
theorem y0_I23 (k : Nat) : ylo 23 k ≤ (y0G 23 k).toInt ∧ (y0G 23 k).toInt ≤ yhi 23 k := by
  exact ti_rng _
theorem y0_I24 (k : Nat) : ylo 24 k ≤ (y0G 24 k).toInt ∧ (y0G 24 k).toInt ≤ yhi 24 k := by
  exact ti_rng _
theorem y0_I25 (k : Nat) : ylo 25 k ≤ (y0G 25 k).toInt ∧ (y0G 25 k).toInt ≤ yhi 25 k := by
  exact ti_rng _
theorem y0_I26 (k : Nat) : ylo 26 k ≤ (y0G 26 k).toInt ∧ (y0G 26 k).toInt ≤ yhi 26 k := by
  show (0 : Int) ≤ Int32.toInt (0 : Int32) ∧ Int32.toInt (0 : Int32) ≤ 1
  decide
theorem y0_I27 (k : Nat) : ylo 27 k ≤ (y0G 27 k).toInt ∧ (y0G 27 k).toInt ≤ yhi 27 k := by
  show (0 : Int) ≤ Int32.toInt (0 : Int32) ∧ Int32.toInt (0 : Int32) ≤ 15
  decide
theorem y0_I28 (k : Nat) : ylo 28 k ≤ (y0G 28 k).toInt ∧ (y0G 28 k).toInt ≤ yhi 28 k := by
  show (0 : Int) ≤ Int32.toInt (0 : Int32) ∧ Int32.toInt (0 : Int32) ≤ 5
  decide
theorem y0_I29 (k : Nat) : ylo 29 k ≤ (y0G 29 k).toInt ∧ (y0G 29 k).toInt ≤ yhi 29 k := by
  show (0 : Int) ≤ Int32.toInt (0 : Int32) ∧ Int32.toInt (0 : Int32) ≤ 9
  decide
theorem y0_I30 (k : Nat) : ylo 30 k ≤ (y0G 30 k).toInt ∧ (y0G 30 k).toInt ≤ yhi 30 k := by
  show (0 : Int) ≤ Int32.toInt (0 : Int32) ∧ Int32.toInt (0 : Int32) ≤ 20
  decide
theorem y0_I31 (k : Nat) : ylo 31 k ≤ (y0G 31 k).toInt ∧ (y0G 31 k).toInt ≤ yhi 31 k := by
  show (0 : Int) ≤ Int32.toInt (0 : Int32) ∧ Int32.toInt (0 : Int32) ≤ 12
  decide
theorem y0_I32 (k : Nat) : ylo 32 k ≤ (y0G 32 k).toInt ∧ (y0G 32 k).toInt ≤ yhi 32 k := by
  exact ti_rng _
theorem y0_I33 (k : Nat) : ylo 33 k ≤ (y0G 33 k).toInt ∧ (y0G 33 k).toInt ≤ yhi 33 k := by
  exact ti_rng _
theorem y0_I34 (k : Nat) : ylo 34 k ≤ (y0G 34 k).toInt ∧ (y0G 34 k).toInt ≤ yhi 34 k := by
  exact ti_rng _
theorem y0_I35 (k : Nat) : ylo 35 k ≤ (y0G 35 k).toInt ∧ (y0G 35 k).toInt ≤ yhi 35 k := by
  show (0 : Int) ≤ Int32.toInt (0 : Int32) ∧ Int32.toInt (0 : Int32) ≤ 5
  decide
theorem y0_I36 (k : Nat) : ylo 36 k ≤ (y0G 36 k).toInt ∧ (y0G 36 k).toInt ≤ yhi 36 k := by
  show (0 : Int) ≤ Int32.toInt (0 : Int32) ∧ Int32.toInt (0 : Int32) ≤ 9
  decide
theorem y0_I37 (k : Nat) : ylo 37 k ≤ (y0G 37 k).toInt ∧ (y0G 37 k).toInt ≤ yhi 37 k := by
  show (0 : Int) ≤ Int32.toInt (0 : Int32) ∧ Int32.toInt (0 : Int32) ≤ 20
  decide
theorem y0_I38 (k : Nat) : ylo 38 k ≤ (y0G 38 k).toInt ∧ (y0G 38 k).toInt ≤ yhi 38 k := by
  show (0 : Int) ≤ Int32.toInt (0 : Int32) ∧ Int32.toInt (0 : Int32) ≤ 12
  decide
theorem y0_I39 (k : Nat) : ylo 39 k ≤ (y0G 39 k).toInt ∧ (y0G 39 k).toInt ≤ yhi 39 k := by
  show (0 : Int) ≤ Int32.toInt (0 : Int32) ∧ Int32.toInt (0 : Int32) ≤ 9
  decide
theorem y0_I40 (k : Nat) : ylo 40 k ≤ (y0G 40 k).toInt ∧ (y0G 40 k).toInt ≤ yhi 40 k := by
  exact ti_rng _
theorem y0_I41 (k : Nat) : ylo 41 k ≤ (y0G 41 k).toInt ∧ (y0G 41 k).toInt ≤ yhi 41 k := by
  exact ti_rng _
theorem y0_I42 (k : Nat) : ylo 42 k ≤ (y0G 42 k).toInt ∧ (y0G 42 k).toInt ≤ yhi 42 k := by
  exact ti_rng _
theorem y0_I43 (k : Nat) : ylo 43 k ≤ (y0G 43 k).toInt ∧ (y0G 43 k).toInt ≤ yhi 43 k := by
  exact ti_rng _
theorem y0_I44 (k : Nat) : ylo 44 k ≤ (y0G 44 k).toInt ∧ (y0G 44 k).toInt ≤ yhi 44 k := by
  exact ti_rng _
theorem y0_I45 (k : Nat) : ylo 45 k ≤ (y0G 45 k).toInt ∧ (y0G 45 k).toInt ≤ yhi 45 k := by
  exact ti_rng _
theorem y0_I46 (k : Nat) : ylo 46 k ≤ (y0G 46 k).toInt ∧ (y0G 46 k).toInt ≤ yhi 46 k := by
  show ((-9999) : Int) ≤ Int32.toInt (0 : Int32) ∧ Int32.toInt (0 : Int32) ≤ 9999
  decide
theorem y0_I47 (k : Nat) : ylo 47 k ≤ (y0G 47 k).toInt ∧ (y0G 47 k).toInt ≤ yhi 47 k := by
  show ((-9999) : Int) ≤ Int32.toInt (0 : Int32) ∧ Int32.toInt (0 : Int32) ≤ 9999
  decide
set_option maxRecDepth 20000 in
theorem y0_I : yI y0G := fun j k => by
  rcases (show j = 0 ∨ j = 1 ∨ j = 2 ∨ j = 3 ∨ j = 4 ∨ j = 5 ∨ j = 6 ∨ j = 7 ∨ j = 8 ∨ j = 9 ∨ j = 10 ∨ j = 11 ∨ j = 12 ∨ j = 13 ∨ j = 14 ∨ j = 15 ∨ j = 16 ∨ j = 17 ∨ j = 18 ∨ j = 19 ∨ j = 20 ∨ j = 21 ∨ j = 22 ∨ j = 23 ∨ j = 24 ∨ j = 25 ∨ j = 26 ∨ j = 27 ∨ j = 28 ∨ j = 29 ∨ j = 30 ∨ j = 31 ∨ j = 32 ∨ j = 33 ∨ j = 34 ∨ j = 35 ∨ j = 36 ∨ j = 37 ∨ j = 38 ∨ j = 39 ∨ j = 40 ∨ j = 41 ∨ j = 42 ∨ j = 43 ∨ j = 44 ∨ j = 45 ∨ j = 46 ∨ j = 47 ∨ 48 ≤ j by omega) with rfl | rfl | rfl | rfl | rfl | rfl | rfl | rfl | rfl | rfl | rfl | rfl | rfl | rfl | rfl | rfl | rfl | rfl | rfl | rfl | rfl | rfl | rfl | rfl | rfl | rfl | rfl | rfl | rfl | rfl | rfl | rfl | rfl | rfl | rfl | rfl | rfl | rfl | rfl | rfl | rfl | rfl | rfl | rfl | rfl | rfl | rfl | rfl | h
  · exact y0_I0 k
  · exact y0_I1 k
  · exact y0_I2 k
  · exact y0_I3 k
  · exact y0_I4 k
  · exact y0_I5 k
  · exact y0_I6 k
  · exact y0_I7 k
  · exact y0_I8 k
  · exact y0_I9 k
  · exact y0_I10 k
  · exact y0_I11 k
  · exact y0_I12 k
  · exact y0_I13 k
  · exact y0_I14 k
  · exact y0_I15 k
  · exact y0_I16 k
  · exact y0_I17 k
  · exact y0_I18 k
  · exact y0_I19 k
  · exact y0_I20 k
  · exact y0_I21 k
  · exact y0_I22 k
  · exact y0_I23 k
  · exact y0_I24 k
  · exact y0_I25 k
  · exact y0_I26 k
  · exact y0_I27 k
  · exact y0_I28 k
  · exact y0_I29 k
  · exact y0_I30 k
  · exact y0_I31 k
  · exact y0_I32 k
  · exact y0_I33 k
  · exact y0_I34 k
  · exact y0_I35 k
  · exact y0_I36 k
  · exact y0_I37 k
  · exact y0_I38 k
  · exact y0_I39 k
  · exact y0_I40 k
  · exact y0_I41 k
  · exact y0_I42 k
  · exact y0_I43 k
  · exact y0_I44 k
  · exact y0_I45 k
  · exact y0_I46 k
  · exact y0_I47 k
  · have a1 : ylo j k = (-9999) := by unfold ylo; rw [if_neg (show ¬ j < 24 by omega), if_neg (show ¬ j < 36 by omega), if_neg (show ¬ j < 42 by omega), if_neg (show ¬ j < 45 by omega), if_neg (show ¬ j < 46 by omega), if_neg (show ¬ j < 47 by omega)]
    have a2 : yhi j k = 9999 := by unfold yhi; rw [if_neg (show ¬ j < 24 by omega), if_neg (show ¬ j < 36 by omega), if_neg (show ¬ j < 42 by omega), if_neg (show ¬ j < 45 by omega), if_neg (show ¬ j < 46 by omega), if_neg (show ¬ j < 47 by omega)]
    have a3 : y0G j = (fun _ => 0) := by unfold y0G; rw [if_neg (show ¬ j < 24 by omega), if_neg (show ¬ j < 36 by omega), if_neg (show ¬ j < 42 by omega), if_neg (show ¬ j < 45 by omega), if_neg (show ¬ j < 46 by omega), if_neg (show ¬ j < 47 by omega)]
    rw [a1, a2, a3]
    show ((-9999) : Int) ≤ Int32.toInt 0 ∧ Int32.toInt 0 ≤ 9999
    decide
