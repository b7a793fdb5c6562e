/-! the class's parser: a sum and the text as they stand -/
def xS (j rc rw : Nat) (G : gS) : sSt := ((G j 8).toInt, tkr (G rw) (G j 4).toInt.toNat, (G j 6).toInt, (G j 7).toInt, (G j 5).toInt, tkr (G rc) (G j 1).toInt.toNat)
def sR (res : Int × sSt) (r : Int) (s : sSt) : Prop := res.1 = r ∧ (r = 0 → res.2 = s)
theorem sR.cast {res : Int × sSt} {r r' : Int} {s : sSt} (h : sR res r s) (e : r' = r) : sR res r' s := by
  rw [e]
  exact h
theorem xS_of {j rc rw : Nat} {G : gS} {W C : Nat → Int32} {wt w o p n l : Int} (e8 : (G j 8).toInt = wt) (eW : G rw = W) (e4 : (G j 4).toInt = w) (e6 : (G j 6).toInt = o) (e7 : (G j 7).toInt = p) (e5 : (G j 5).toInt = n) (eC : G rc = C) (e1 : (G j 1).toInt = l) : xS j rc rw G = (wt, tkr W w.toNat, o, p, n, tkr C l.toNat) := by
  unfold xS
  rw [e8, eW, e4, e6, e7, e5, eC, e1]
theorem xsg_rng {a : Int} (h : 1 ≤ xsg a) : 37 ≤ a ∧ a ≤ 47 := by
  unfold xsg at h
  split at h
  · omega
  · split at h <;> omega
theorem jd_step {s : Int} {W C C' : Nat → Int32} {w l w' l' : Int} {v : Int32} {X : List Int × List Int} (h : sJ s (tkr W w.toNat) (tkr C l.toNat) = X) (hw : 1 ≤ w) (hw' : w' = w - 1) (hs : s ≤ xsg (W w'.toNat).toInt) (hl : 0 ≤ l) (hC : C' = upd C l.toNat v) (hl' : l' = l + 1) (hv : v.toInt = -3 - (W w'.toNat).toInt) : sJ s (tkr W w'.toNat) (tkr C' l'.toNat) = X := by
  rw [tkr_pop hw hw', sJ_go hs] at h
  rw [hC, tkr_push hl hl', hv]
  exact h
theorem jd_end {s : Int} {W C : Nat → Int32} {w l : Int} {X : List Int × List Int} (h : sJ s (tkr W w.toNat) (tkr C l.toNat) = X) (hs : 1 ≤ w → xsg (W (w - 1).toNat).toInt < s) : X = (tkr W w.toNat, tkr C l.toNat) := by
  by_cases e : 1 ≤ w
  · rw [tkr_pop e rfl, sJ_no (hs e)] at h
    rw [tkr_pop e rfl, h]
  · rw [tkr_0 (by omega)] at h ⊢
    exact h.symm
theorem sM_step {W C C' : Nat → Int32} {w l o w' l' o' : Int} {v : Int32} {X : List Int × Int × List Int} (h : sM (tkr W w.toNat) o (tkr C l.toNat) = X) (hw : 1 ≤ w) (hw' : w' = w - 1) (ha : (W w'.toNat).toInt = -3) (ho : o' = o - 1) (hl : 0 ≤ l) (hC : C' = upd C l.toNat v) (hl' : l' = l + 1) (hv : v.toInt = -3) : sM (tkr W w'.toNat) o' (tkr C' l'.toNat) = X := by
  rw [tkr_pop hw hw', sM_go ha] at h
  rw [hC, tkr_push hl hl', hv, ho]
  exact h
theorem sM_end {W C : Nat → Int32} {w l o : Int} {X : List Int × Int × List Int} (h : sM (tkr W w.toNat) o (tkr C l.toNat) = X) (hs : 1 ≤ w → (W (w - 1).toNat).toInt ≠ -3) : X = (tkr W w.toNat, o, tkr C l.toNat) := by
  by_cases e : 1 ≤ w
  · rw [tkr_pop e rfl, sM_no (hs e)] at h
    rw [tkr_pop e rfl, h]
  · rw [tkr_0 (by omega)] at h ⊢
    exact h.symm
section ST
variable {ls k v wt o p n : Int} {w cs : List Int} {s : sSt}
theorem sOp_ok {code n' o' : Int} {w' cs' : List Int} (hn : n < 12) (hn' : n' = n + 1) (h : sM w o (code :: cs) = (w', o', cs')) : sR (sOp code w o p n cs) 0 (0, w', o', p, n', cs') := by
  unfold sOp
  rw [if_neg (by omega), h, hn']
  exact ⟨rfl, fun _ => rfl⟩
theorem sOp_no {code : Int} (hn : 12 ≤ n) : sR (sOp code w o p n cs) 4 s := by
  unfold sOp
  rw [if_pos hn]
  exact ⟨rfl, fun h => absurd h (by decide)⟩
theorem sT_op1 {o' p' : Int} {w' : List Int} (hw : wt ≠ 0) (ho : o < 4) (ho' : o' = o + 1) (hp' : p' = p + 1) (hw' : w' = 40 :: w) : sR (sT ls 3 40 wt w o p n cs) 0 (1, w', o', p', n, cs) := by
  unfold sT
  rw [if_neg hw, if_pos ⟨rfl, rfl⟩, if_neg (by omega), ho', hp', hw']
  exact ⟨rfl, fun _ => rfl⟩
theorem sT_op2 {o' : Int} {w' : List Int} (hw : wt ≠ 0) (ho : o < 4) (ho' : o' = o + 1) (hw' : w' = -3 :: w) : sR (sT ls 3 45 wt w o p n cs) 0 (1, w', o', p, n, cs) := by
  unfold sT
  rw [if_neg hw, if_neg (by decide), if_pos ⟨rfl, rfl⟩, if_neg (by omega), ho', hw']
  exact ⟨rfl, fun _ => rfl⟩
theorem sT_op4 (hw : wt ≠ 0) (hv : v = 40 ∨ v = 45) (ho : 4 ≤ o) : sR (sT ls 3 v wt w o p n cs) 4 s := by
  unfold sT
  rw [if_neg hw]
  by_cases e : v = 40
  · rw [if_pos ⟨rfl, e⟩, if_pos ho]
    exact ⟨rfl, fun h => absurd h (by decide)⟩
  · rw [if_neg (fun h => e h.2), if_pos ⟨rfl, by omega⟩, if_pos ho]
    exact ⟨rfl, fun h => absurd h (by decide)⟩
theorem sT_num (hw : wt ≠ 0) (hk : k = 2) : sT ls k v wt w o p n cs = sOp v w o p n cs := by
  unfold sT
  rw [if_neg hw, if_neg (by omega), if_neg (by omega), if_pos hk]
theorem sT_let {li : Int} (hw : wt ≠ 0) (hk : k = 1) (hl : sLi ls v = li) (hn : li ≠ -1) : sT ls k v wt w o p n cs = sOp (-1 - li) w o p n cs := by
  unfold sT
  rw [if_neg hw, if_neg (by omega), if_neg (by omega), if_neg (by omega), hl, if_pos ⟨hk, hn⟩]
theorem sT_none (hw : wt ≠ 0) (h1 : ¬ (k = 3 ∧ v = 40)) (h2 : ¬ (k = 3 ∧ v = 45)) (h3 : k ≠ 2) (h4 : k = 1 → sLi ls v = -1) : sR (sT ls k v wt w o p n cs) 1 s := by
  unfold sT
  rw [if_neg hw, if_neg h1, if_neg h2, if_neg h3, if_neg (fun h => h.2 (h4 h.1))]
  exact ⟨rfl, fun h => absurd h (by decide)⟩
theorem sT_close {o1 p' o2 : Int} {w1 c1 w2 c2 w3 : List Int} (hw : wt = 0) (h1 : k = 3) (h2 : v = 41) (hp : 0 < p) (hJ : sJ 1 w cs = (w1, c1)) (ht : w1.tail = w3) (ho1 : o1 = o - 1) (hM : sM w3 o1 c1 = (w2, o2, c2)) (hp' : p' = p - 1) : sR (sT ls k v wt w o p n cs) 0 (0, w2, o2, p', n, c2) := by
  unfold sT
  rw [if_pos hw, if_pos ⟨h1, h2, hp⟩, hJ]
  show sR (0, (0, (sM w1.tail (o - 1) c1).1, (sM w1.tail (o - 1) c1).2.1, p - 1, n, (sM w1.tail (o - 1) c1).2.2)) 0 _
  rw [ht, ← ho1, hM, hp']
  exact ⟨rfl, fun _ => rfl⟩
theorem sT_off (hw : wt = 0) (h1 : ¬ (k = 3 ∧ v = 41 ∧ 0 < p)) (h2 : k = 3 → xsg v = 0) : sR (sT ls k v wt w o p n cs) 1 s := by
  unfold sT
  rw [if_pos hw, if_neg h1, if_neg (fun h => h.2 (h2 h.1))]
  exact ⟨rfl, fun h => absurd h (by decide)⟩
theorem sT_sign {st : Int} {w1 c1 w2 : List Int} (hw : wt = 0) (h1 : k = 3) (h2 : xsg v = st) (hn : st ≠ 0) (hJ : sJ st w cs = (w1, c1)) (h3 : w2 = v :: w1) : sR (sT ls k v wt w o p n cs) 0 (1, w2, o, p, n, c1) := by
  have n41 : v ≠ 41 := fun e => hn (by rw [← h2, e]; decide)
  unfold sT
  rw [if_pos hw, if_neg (fun h => n41 h.2.1), h2, if_pos ⟨h1, hn⟩, hJ, h3]
  exact ⟨rfl, fun _ => rfl⟩
end ST
theorem tkr_tail {f : Nat → Int32} {n y : Int} (h : 1 ≤ n) (hy : y = n - 1) : (tkr f n.toNat).tail = tkr f y.toNat := by
  rw [tkr_pop h hy]
  rfl
/-- where a letter stands among the letters of a sum -/
theorem zIx_li {bs : Nat → Int32} {n : Int} {p0 : Int32} {r v ls : Int} (h : zIx bs n (Int32.toInt8 p0).toInt32 r) (hv : p0.toInt = v) (h0 : 0 ≤ v) (h1 : v ≤ 255) (hb : (ls = 0 ∧ n = 2 ∧ bs 0 = 104 ∧ bs 1 = 119) ∨ (ls = 1 ∧ n = 2 ∧ bs 0 = 108 ∧ bs 1 = 103) ∨ (ls = 2 ∧ n = 1 ∧ bs 0 = 104)) : r = sLi ls v := by
  have e := i8_toInt p0 (by omega) (by omega)
  rw [hv] at e
  have t : ∀ c : Int32, c = (Int32.toInt8 p0).toInt32 ↔ c.toInt = (if v ≤ 127 then v else v - 256) := fun c => ⟨fun h9 => by rw [h9, e], fun h9 => Int32.toInt_inj.mp (by rw [h9, e])⟩
  have k104 : (104 : Int32).toInt = 104 := rfl
  have k119 : (119 : Int32).toInt = 119 := rfl
  have k108 : (108 : Int32).toInt = 108 := rfl
  have k103 : (103 : Int32).toInt = 103 := rfl
  unfold sLi
  rcases hb with ⟨b1, b2, b3, b4⟩ | ⟨b1, b2, b3, b4⟩ | ⟨b1, b2, b3⟩
  · have t0 := t 104
    have t1 := t 119
    rw [k104] at t0
    rw [k119] at t1
    rcases h with ⟨a1, a2, a3, a4⟩ | ⟨a1, a2⟩
    · rcases (show r = 0 ∨ r = 1 by omega) with e9 | e9
      · rw [e9, show (0 : Int).toNat = 0 from rfl, b3] at a3
        have a5 := t0.mp a3
        split at a5 <;> (rw [if_neg (by omega), if_pos (by omega)]; omega)
      · rw [e9, show (1 : Int).toNat = 1 from rfl, b4] at a3
        have a5 := t1.mp a3
        split at a5 <;> (rw [if_neg (by omega), if_neg (by omega), if_pos (by omega)]; omega)
    · have a5 : ¬ (104 : Int) = (if v ≤ 127 then v else v - 256) := fun h9 => a2 0 (by omega) (by rw [b3]; exact t0.mpr h9)
      have a6 : ¬ (119 : Int) = (if v ≤ 127 then v else v - 256) := fun h9 => a2 1 (by omega) (by rw [b4]; exact t1.mpr h9)
      split at a5 <;> (rw [if_neg (by omega), if_neg (by omega), if_neg (by omega)]; exact a1)
  · have t0 := t 108
    have t1 := t 103
    rw [k108] at t0
    rw [k103] at t1
    rcases h with ⟨a1, a2, a3, a4⟩ | ⟨a1, a2⟩
    · rcases (show r = 0 ∨ r = 1 by omega) with e9 | e9
      · rw [e9, show (0 : Int).toNat = 0 from rfl, b3] at a3
        have a5 := t0.mp a3
        split at a5 <;> (rw [if_pos (by omega), if_pos (by omega)]; omega)
      · rw [e9, show (1 : Int).toNat = 1 from rfl, b4] at a3
        have a5 := t1.mp a3
        split at a5 <;> (rw [if_pos (by omega), if_neg (by omega), if_pos (by omega)]; omega)
    · have a5 : ¬ (108 : Int) = (if v ≤ 127 then v else v - 256) := fun h9 => a2 0 (by omega) (by rw [b3]; exact t0.mpr h9)
      have a6 : ¬ (103 : Int) = (if v ≤ 127 then v else v - 256) := fun h9 => a2 1 (by omega) (by rw [b4]; exact t1.mpr h9)
      split at a5 <;> (rw [if_pos (by omega), if_neg (by omega), if_neg (by omega)]; exact a1)
  · have t0 := t 104
    rw [k104] at t0
    rcases h with ⟨a1, a2, a3, a4⟩ | ⟨a1, a2⟩
    · rw [show r = 0 by omega, show (0 : Int).toNat = 0 from rfl, b3] at a3
      have a5 := t0.mp a3
      split at a5 <;> (rw [if_neg (by omega), if_pos (by omega)]; omega)
    · have a5 : ¬ (104 : Int) = (if v ≤ 127 then v else v - 256) := fun h9 => a2 0 (by omega) (by rw [b3]; exact t0.mpr h9)
      split at a5 <;> (rw [if_neg (by omega), if_neg (by omega), if_neg (by omega)]; exact a1)
