theorem gb_t {P : Prop} [Decidable P] (h : P) : (1 : Int32) = if P then 1 else 0 := (if_pos h).symm
theorem gb_f {P : Prop} [Decidable P] (h : ¬ P) : (0 : Int32) = if P then 1 else 0 := (if_neg h).symm
theorem gi_t {α : Type} {P : Prop} [Decidable P] {a b : α} (h : P) : a = if P then a else b := (if_pos h).symm
theorem gi_f {α : Type} {P : Prop} [Decidable P] {a b : α} (h : ¬ P) : b = if P then a else b := (if_neg h).symm
theorem gb_0 {P : Prop} [Decidable P] (h : (if P then (1 : Int32) else 0) = 0) : ¬ P := fun q => by rw [if_pos q] at h; exact absurd h (by decide)
theorem gb_n0 {P : Prop} [Decidable P] (h : ¬ (if P then (1 : Int32) else 0) = 0) : P := Decidable.byContradiction (fun q => h (if_neg q))
