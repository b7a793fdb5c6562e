/-- the reference's String constants -/
def yKx : List Nat := [116, 122, 124, 126, 155, 157, 159, 161, 163, 165, 167, 168, 170, 172, 174, 176, 178]
def yTx : List String := ["l", "g", "h", "w", "sectors", "rings", "mass", "stiff", "damp", "limit", "mark", "turns", "teeth", "sway", "force", "wall", "wear"]
def yLn : List Nat := [1, 1, 1, 1, 7, 5, 4, 5, 4, 5, 4, 5, 5, 4, 5, 4, 4]
def yBy : List (List Int32) := [[108], [103], [104], [119], [115, 101, 99, 116, 111, 114, 115], [114, 105, 110, 103, 115], [109, 97, 115, 115], [115, 116, 105, 102, 102], [100, 97, 109, 112], [108, 105, 109, 105, 116], [109, 97, 114, 107], [116, 117, 114, 110, 115], [116, 101, 101, 116, 104], [115, 119, 97, 121], [102, 111, 114, 99, 101], [119, 97, 108, 108], [119, 101, 97, 114]]
def yZ (qs vs : Nat → Nat) (A : Nat → Prop) (U : State) (H : Heap) : Prop := ∀ i, i < 17 → zS (qs i) (vs i) (yLn.getD i 0) (fun j => (yBy.getD i []).getD j 0) A U H ∧ vk_R RX13 (yKx.getD i 0) (yTx.getD i "") (qs i) U
theorem yZ_st {qs vs : Nat → Nat} : gzS (yZ qs vs) := ⟨fun A B s U H locs h hS hAB hW i hi => ⟨zS_st.1 A B s U H locs (h i hi).1 hS hAB hW, vk_R.warm hW (h i hi).2⟩, fun A U g mk a h i hi => ⟨zS_st.2 A U g mk a (h i hi).1, vk_R.same rfl (h i hi).2⟩⟩
