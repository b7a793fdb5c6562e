theorem sp_cl_bd (v : Int32) : -9999 ≤ (sp_cl v).toInt ∧ (sp_cl v).toInt ≤ 9999 := by
  have e1 : (-9999 : Int32).toInt = -9999 := rfl
  have e2 : (9999 : Int32).toInt = 9999 := rfl
  unfold sp_cl
  by_cases h : v < 9999
  · simp only [if_pos h]
    by_cases h2 : -9999 < v
    · rw [if_pos h2]
      simp only [Int32.lt_iff_toInt_lt, e1, e2] at h h2
      omega
    · rw [if_neg h2]
      omega
  · simp only [if_neg h]
    decide
theorem sp_bite_f {fl x : Int32} {i : Nat} {tf : Nat → Nat} {h : Nat → Int32} : ∀ k : Nat, k ≤ 4 → -(9999 * (k : Int)) ≤ (sp_bite fl x i tf h k).2.toInt ∧ (sp_bite fl x i tf h k).2.toInt ≤ 9999 * (k : Int)
  | 0, _ => by
    show -(9999 * ((0 : Nat) : Int)) ≤ (0 : Int32).toInt ∧ (0 : Int32).toInt ≤ 9999 * ((0 : Nat) : Int)
    decide
  | k + 1, hk => by
    have ih := sp_bite_f (fl := fl) (x := x) (i := i) (tf := tf) (h := h) k (by omega)
    show -(9999 * ((k + 1 : Nat) : Int)) ≤ (sp_tooth fl x i (tf k) (sp_bite fl x i tf h k)).2.toInt ∧ (sp_tooth fl x i (tf k) (sp_bite fl x i tf h k)).2.toInt ≤ 9999 * ((k + 1 : Nat) : Int)
    generalize sp_bite fl x i tf h k = s at ih ⊢
    unfold sp_tooth
    split
    · omega
    · have hc := sp_cl_bd (s.1 ((i + tf k) % 8) - fl - x)
      show -(9999 * ((k + 1 : Nat) : Int)) ≤ (s.2 + sp_cl (s.1 ((i + tf k) % 8) - fl - x)).toInt ∧ (s.2 + sp_cl (s.1 ((i + tf k) % 8) - fl - x)).toInt ≤ 9999 * ((k + 1 : Nat) : Int)
      rw [gz_add (by omega) (by omega)]
      omega
/-- rows that stay within -/
def sp_in (h : Nat → Int32) : Prop := ∀ j, j < 8 → -499 ≤ (h j).toInt ∧ (h j).toInt ≤ 1000
theorem sp_bite_in {fl x : Int32} {i : Nat} {tf : Nat → Nat} {h : Nat → Int32} (hh : sp_in h) (hf1 : 1 ≤ fl.toInt) (hf2 : fl.toInt ≤ 1000) (hx1 : -500 ≤ x.toInt) (hx2 : x.toInt ≤ 500) : ∀ k : Nat, sp_in (sp_bite fl x i tf h k).1
  | 0 => hh
  | k + 1 => by
    have ih := sp_bite_in (i := i) (tf := tf) hh hf1 hf2 hx1 hx2 k
    show sp_in (sp_tooth fl x i (tf k) (sp_bite fl x i tf h k)).1
    generalize sp_bite fl x i tf h k = s at ih ⊢
    unfold sp_tooth
    split
    · exact ih
    · rename_i hn
      intro j hj
      show -499 ≤ (upd s.1 ((i + tf k) % 8) (fl + x) j).toInt ∧ (upd s.1 ((i + tf k) % 8) (fl + x) j).toInt ≤ 1000
      by_cases e : j = (i + tf k) % 8
      · subst e
        rw [pk_us]
        have h1 := ih _ hj
        have e1 := gz_add (a := fl) (b := x) (by omega) (by omega)
        have e2 := gz_sub (a := s.1 ((i + tf k) % 8)) (b := fl) (by omega) (by omega)
        have e3 := gz_sub (a := s.1 ((i + tf k) % 8) - fl) (b := x) (by omega) (by omega)
        have e0 : (0 : Int32).toInt = 0 := rfl
        simp only [Int32.le_iff_toInt_le, e0] at hn
        omega
      · rw [pk_un e]
        exact ih j hj
theorem sp_most_in {h : Nat → Int32} {a b : Int} : ∀ k : Nat, (∀ j, j ≤ k → a ≤ (h j).toInt ∧ (h j).toInt ≤ b) → a ≤ (sp_most h k).toInt ∧ (sp_most h k).toInt ≤ b
  | 0, e => e 0 (Nat.le_refl 0)
  | k + 1, e => by
    unfold sp_most
    split
    · exact e (k + 1) (Nat.le_refl _)
    · exact sp_most_in k (fun j hj => e j (by omega))
theorem sp_floor {lv fd : Int32} {t tu : Nat} (h1 : lv.toInt ≤ 1000) (h0 : -499 ≤ lv.toInt) (h2 : 1 ≤ fd.toInt) (h3 : fd.toInt ≤ 20) (ht : t < tu) (hu : tu ≤ 12) (hl : 1 ≤ lv.toInt - fd.toInt * tu) : (lv - fd * (nI t + 1)).toInt = lv.toInt - fd.toInt * (t + 1) ∧ 1 ≤ (lv - fd * (nI t + 1)).toInt ∧ (lv - fd * (nI t + 1)).toInt ≤ 1000 := by
  have e1 : (nI t + 1).toInt = (t : Int) + 1 := by
    rw [nI_1, nI_toInt (by omega)]
    omega
  have m1 := gz_mb (a := fd.toInt) (b := (t : Int) + 1) (A := 20) (B := 12) (by omega) (by omega) (by omega) (by omega)
  have e2 := gz_mul (a := fd) (b := nI t + 1) (by rw [e1]; omega) (by rw [e1]; omega)
  rw [e1] at e2
  have e3 := gz_sub (a := lv) (b := fd * (nI t + 1)) (by omega) (by omega)
  have m2 : fd.toInt * ((t : Int) + 1) ≤ fd.toInt * tu := Int.mul_le_mul_of_nonneg_left (by omega) (by omega)
  have m3 : 0 ≤ fd.toInt * ((t : Int) + 1) := Int.mul_nonneg (by omega) (by omega)
  refine ⟨by rw [e3, e2], ?_, ?_⟩
  · rw [e3, e2]; omega
  · rw [e3, e2]; omega
/-- what a pass keeps -/
theorem sp_pass_in {lv fd : Int32} {sp : Nat} {st dm : Int32} {tf : Nat → Nat} {tm : Nat} {h : Nat → Int32} {tu : Nat} (htm : tm ≤ 4) (hh : sp_in h) (h1 : lv.toInt ≤ 1000) (h0 : -499 ≤ lv.toInt) (h2 : 1 ≤ fd.toInt) (h3 : fd.toInt ≤ 20) (hu : tu ≤ 12) (hl : 1 ≤ lv.toInt - fd.toInt * tu) (s1 : 0 ≤ st.toInt) (s2 : st.toInt ≤ 300) (d1 : 0 ≤ dm.toInt) (d2 : dm.toInt ≤ 300) : ∀ n : Nat, n ≤ 8 * tu → sp_in (sp_pass lv fd sp st dm tf tm h n).1 ∧ (¬ (sp_pass lv fd sp st dm tf tm h n).2.2.2 = true → sp_xv (sp_pass lv fd sp st dm tf tm h n).2.1 (sp_pass lv fd sp st dm tf tm h n).2.2.1)
  | 0, _ => ⟨hh, fun _ => by show sp_xv 0 0; unfold sp_xv; decide⟩
  | n + 1, hn => by
    have ih := sp_pass_in (sp := sp) (tf := tf) htm hh h1 h0 h2 h3 hu hl s1 s2 d1 d2 n (by omega)
    show sp_in (sp_sec lv fd sp st dm tf tm n (sp_pass lv fd sp st dm tf tm h n)).1 ∧ (¬ (sp_sec lv fd sp st dm tf tm n (sp_pass lv fd sp st dm tf tm h n)).2.2.2 = true → sp_xv (sp_sec lv fd sp st dm tf tm n (sp_pass lv fd sp st dm tf tm h n)).2.1 (sp_sec lv fd sp st dm tf tm n (sp_pass lv fd sp st dm tf tm h n)).2.2.1)
    generalize sp_pass lv fd sp st dm tf tm h n = s at ih ⊢
    unfold sp_sec
    by_cases hb : s.2.2.2 = true
    · rw [if_pos hb]
      exact ih
    · rw [if_neg hb]
      have k := ih.2 hb
      obtain ⟨-, f1, f2⟩ := sp_floor h1 h0 h2 h3 (t := n / 8) (tu := tu) (by omega) hu hl
      have hbf := sp_bite_f (fl := lv - fd * (nI (n / 8) + 1)) (x := s.2.1) (i := n % 8) (tf := tf) (h := s.1) tm htm
      refine ⟨sp_bite_in ih.1 f1 f2 k.1 k.2.1 tm, fun hn2 => ?_⟩
      exact (sp_sw_bd (f := (sp_bite (lv - fd * (nI (n / 8) + 1)) s.2.1 (n % 8) tf s.1 tm).2) ⟨by omega, by omega, s1, s2, d1, d2⟩ k sp).2.2 hn2
-- rows that agree within
theorem sp_bite_cg {fl x : Int32} {i : Nat} {tf tg : Nat → Nat} {h g : Nat → Int32} (e : ∀ j, j < 8 → h j = g j) : ∀ k : Nat, (∀ j, j < k → tf j = tg j) → (∀ j, j < 8 → (sp_bite fl x i tf h k).1 j = (sp_bite fl x i tg g k).1 j) ∧ (sp_bite fl x i tf h k).2 = (sp_bite fl x i tg g k).2
  | 0, _ => ⟨e, rfl⟩
  | k + 1, ht => by
    have ih := sp_bite_cg (fl := fl) (x := x) (i := i) e k (fun j hj => ht j (by omega))
    show (∀ j, j < 8 → (sp_tooth fl x i (tf k) (sp_bite fl x i tf h k)).1 j = (sp_tooth fl x i (tg k) (sp_bite fl x i tg g k)).1 j) ∧ (sp_tooth fl x i (tf k) (sp_bite fl x i tf h k)).2 = (sp_tooth fl x i (tg k) (sp_bite fl x i tg g k)).2
    rw [← ht k (by omega)]
    generalize sp_bite fl x i tf h k = s at ih ⊢
    generalize sp_bite fl x i tg g k = u at ih ⊢
    have e1 := ih.1 ((i + tf k) % 8) (Nat.mod_lt _ (by decide))
    unfold sp_tooth
    rw [e1, ih.2]
    split
    · exact ⟨ih.1, ih.2⟩
    · refine ⟨fun j hj => ?_, rfl⟩
      show upd s.1 ((i + tf k) % 8) (fl + x) j = upd u.1 ((i + tf k) % 8) (fl + x) j
      by_cases e2 : j = (i + tf k) % 8
      · subst e2
        rw [pk_us, pk_us]
      · rw [pk_un e2, pk_un e2]
        exact ih.1 j hj
theorem sp_pass_cg {lv fd : Int32} {sp : Nat} {st dm : Int32} {tf tg : Nat → Nat} {tm : Nat} {h g : Nat → Int32} (e : ∀ j, j < 8 → h j = g j) (ht : ∀ j, j < tm → tf j = tg j) : ∀ n : Nat, (∀ j, j < 8 → (sp_pass lv fd sp st dm tf tm h n).1 j = (sp_pass lv fd sp st dm tg tm g n).1 j) ∧ (sp_pass lv fd sp st dm tf tm h n).2 = (sp_pass lv fd sp st dm tg tm g n).2
  | 0 => ⟨e, rfl⟩
  | n + 1 => by
    have ih := sp_pass_cg (lv := lv) (fd := fd) (sp := sp) (st := st) (dm := dm) e ht n
    show (∀ j, j < 8 → (sp_sec lv fd sp st dm tf tm n (sp_pass lv fd sp st dm tf tm h n)).1 j = (sp_sec lv fd sp st dm tg tm n (sp_pass lv fd sp st dm tg tm g n)).1 j) ∧ (sp_sec lv fd sp st dm tf tm n (sp_pass lv fd sp st dm tf tm h n)).2 = (sp_sec lv fd sp st dm tg tm n (sp_pass lv fd sp st dm tg tm g n)).2
    generalize sp_pass lv fd sp st dm tf tm h n = s at ih ⊢
    generalize sp_pass lv fd sp st dm tg tm g n = u at ih ⊢
    obtain ⟨sh, sr⟩ := s
    obtain ⟨uh, ur⟩ := u
    obtain ⟨i1, i2⟩ := ih
    simp only at i1 i2
    subst i2
    unfold sp_sec
    by_cases hb : sr.2.2 = true
    · simp only [hb, if_true]
      exact ⟨i1, trivial⟩
    · simp only [hb]
      have q := sp_bite_cg (fl := lv - fd * (nI (n / 8) + 1)) (x := sr.1) (i := n % 8) (tf := tf) (tg := tg) i1 tm ht
      exact ⟨q.1, by show sp_sw _ st dm sr.1 sr.2.1 sp = sp_sw _ st dm sr.1 sr.2.1 sp; rw [q.2]⟩
theorem sp_ver_cg {s u : (Nat → Int32) × Int32 × Int32 × Bool} (h : (∀ j, j < 8 → s.1 j = u.1 j) ∧ s.2 = u.2) : sp_ver s = sp_ver u := by
  unfold sp_ver
  rw [h.2, sp_most_congr 7 (fun j hj => h.1 j (by omega)), sp_least_congr 7 (fun j hj => h.1 j (by omega))]
