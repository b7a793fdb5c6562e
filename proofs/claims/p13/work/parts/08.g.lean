/-- the fault is as it was -/
def yFf (G G' : gS) : Prop := G' 0 8 = G 0 8 ∧ G' 0 9 = G 0 9
theorem yFf.rf {G : gS} : yFf G G := ⟨rfl, rfl⟩
theorem yFf.tr {G G1 G2 : gS} (h : yFf G G1) (g : yFf G1 G2) : yFf G G2 := ⟨g.1.trans h.1, g.2.trans h.2⟩
theorem yFf.un {G G1 : gS} {L : List Nat} (hU : gu_un ycd L G G1) (hL : (L.contains 9 || L.contains 10) = false) : yFf G G1 := by
  simp only [Bool.or_eq_false_iff] at hL
  have hm : ∀ n : Nat, L.contains n = false → n ∉ L := by
    intro n h1 h2
    rw [List.contains_iff_mem.mpr h2] at h1
    cases h1
  exact ⟨hU 0 8 (hm 9 hL.1), hU 0 9 (hm 10 hL.2)⟩
def wsT_nx : List Cond := [.methodLink RX13 53 yX13_wrong, .instanceMethod yX13_wrong, .selects RX13 yX13_wrong yX13_wrong, .initialized RX13] ++ wsX13_wrong
theorem gT_left {a b w : List Cond} (h : GoodIn a w) : GoodIn (a ++ b) w := fun x hx => ⟨List.mem_append_left _ (h x hx).1, (h x hx).2⟩
theorem gT_right {a b w : List Cond} (h : GoodIn b w) : GoodIn (a ++ b) w := fun x hx => ⟨List.mem_append_right _ (h x hx).1, (h x hx).2⟩
set_option maxRecDepth 20000 in
theorem gT_nx : GoodIn wsT_nx wsT_nx := goodIn_of _ (by decide +kernel)
theorem gT_call {a w nx : List Cond} {own C : String} {idx : Nat} {y : MethodName} (h : GoodIn a (wsV own idx C y w)) (hn : GoodIn nx wsT_nx) : GoodIn (a ++ nx) (wsV own idx C y (w ++ wsT_nx)) := fun x hx => by
  have h1 : x ∈ wsV own idx C y w ++ wsT_nx := by
    unfold wsV at *
    simpa only [List.append_assoc] using hx
  rcases List.mem_append.mp h1 with h2 | h2
  · exact gT_left h x h2
  · exact gT_right hn x h2
