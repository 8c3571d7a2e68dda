/-! count, person, box, thing, look: one in both -/
noncomputable section
theorem rng {x h : Int32} {k : Nat} (hh : h = nI k) (hk : k < 1000) : (∃ c : Nat, c < k ∧ x = nI c) ∨ (x < 0 ∨ h ≤ x) ∧ ¬ ∃ c : Nat, c < k ∧ x = nI c := by
  by_cases q : ∃ c : Nat, c < k ∧ x = nI c
  · exact Or.inl q
  · refine Or.inr ⟨?_, q⟩
    by_cases c0 : x < 0
    · exact Or.inl c0
    · obtain ⟨j, hj, e⟩ := nI_of c0
      refine Or.inr ?_
      rw [hh, e]
      exact nI_le (Nat.le_of_not_lt (fun z => q ⟨j, z, e⟩)) hj
theorem rng_in {x h : Int32} {k c : Nat} (hh : h = nI k) (hk : k < 1000) (hc : c < k) (hx : x = nI c) : ¬ x < 0 ∧ x < h := by
  rw [hx, hh]
  exact ⟨nI_pos (by omega), nI_lt hc (by omega)⟩
theorem cs_in {to : Nat → Int32} {x : Int32} {nc c : Nat} (k1 : to 1 = nI nc) (hn : nc < 1000) (hc : c < nc) (hx : x = nI c) : ¬ s_X13_isCase to x = 0 := fun q => (in_iff k1 hn).mp q ⟨c, hc, hx⟩
theorem cs_out {to : Nat → Int32} {x : Int32} {nc : Nat} (k1 : to 1 = nI nc) (hn : nc < 1000) (h : ¬ ∃ c : Nat, c < nc ∧ x = nI c) : s_X13_isCase to x = 0 := (in_iff k1 hn).mpr h
theorem pe_in {to : Nat → Int32} {x : Int32} {nc c : Nat} (k1 : to 0 = nI nc) (hn : nc < 1000) (hc : c < nc) (hx : x = nI c) : ¬ s_X13_isPerson to x = 0 := fun q => (in_iff k1 hn).mp q ⟨c, hc, hx⟩
theorem pe_out {to : Nat → Int32} {x : Int32} {nc : Nat} (k1 : to 0 = nI nc) (hn : nc < 1000) (h : ¬ ∃ c : Nat, c < nc ∧ x = nI c) : s_X13_isPerson to x = 0 := (in_iff k1 hn).mpr h
theorem th_in {to : Nat → Int32} {x : Int32} {nc c : Nat} (k1 : to 2 = nI nc) (hn : nc < 1000) (hc : c < nc) (hx : x = nI c) : ¬ s_X13_isThing to x = 0 := fun q => (in_iff k1 hn).mp q ⟨c, hc, hx⟩
theorem th_out {to : Nat → Int32} {x : Int32} {nc : Nat} (k1 : to 2 = nI nc) (hn : nc < 1000) (h : ¬ ∃ c : Nat, c < nc ∧ x = nI c) : s_X13_isThing to x = 0 := (in_iff k1 hn).mpr h
theorem y_6 {y : Int32} (h0 : ¬ y < 0) (h1 : y < 6) : y = 0 ∨ y = 1 ∨ y = 2 ∨ y = 3 ∨ y = 4 ∨ y = 5 := by
  obtain ⟨j, hj, rfl⟩ := nI_of h0
  have hj2 : j < 6 := (nI_ltI (b := 6) hj (by decide)).mp h1
  have h : j = 0 ∨ j = 1 ∨ j = 2 ∨ j = 3 ∨ j = 4 ∨ j = 5 := by omega
  rcases h with rfl | rfl | rfl | rfl | rfl | rfl
  · exact Or.inl rfl
  · exact Or.inr (Or.inl rfl)
  · exact Or.inr (Or.inr (Or.inl rfl))
  · exact Or.inr (Or.inr (Or.inr (Or.inl rfl)))
  · exact Or.inr (Or.inr (Or.inr (Or.inr (Or.inl rfl))))
  · exact Or.inr (Or.inr (Or.inr (Or.inr (Or.inr (rfl)))))
theorem y_6n {y : Int32} (h : y < 0 ∨ 6 ≤ y) : ¬ y = 0 ∧ ¬ y = 1 ∧ ¬ y = 2 ∧ ¬ y = 3 ∧ ¬ y = 4 ∧ ¬ y = 5 := by
  refine ⟨?_, ?_, ?_, ?_, ?_, ?_⟩ <;> (rintro rfl; exact absurd h (by decide))
theorem y_8 {y : Int32} (h0 : ¬ y < 0) (h1 : y < 8) : y = 0 ∨ y = 1 ∨ y = 2 ∨ y = 3 ∨ y = 4 ∨ y = 5 ∨ y = 6 ∨ y = 7 := by
  obtain ⟨j, hj, rfl⟩ := nI_of h0
  have hj2 : j < 8 := (nI_ltI (b := 8) hj (by decide)).mp h1
  have h : j = 0 ∨ j = 1 ∨ j = 2 ∨ j = 3 ∨ j = 4 ∨ j = 5 ∨ j = 6 ∨ j = 7 := by omega
  rcases h with rfl | rfl | rfl | rfl | rfl | rfl | rfl | rfl
  · exact Or.inl rfl
  · exact Or.inr (Or.inl rfl)
  · exact Or.inr (Or.inr (Or.inl rfl))
  · exact Or.inr (Or.inr (Or.inr (Or.inl rfl)))
  · exact Or.inr (Or.inr (Or.inr (Or.inr (Or.inl rfl))))
  · exact Or.inr (Or.inr (Or.inr (Or.inr (Or.inr (Or.inl rfl)))))
  · exact Or.inr (Or.inr (Or.inr (Or.inr (Or.inr (Or.inr (Or.inl rfl))))))
  · exact Or.inr (Or.inr (Or.inr (Or.inr (Or.inr (Or.inr (Or.inr (rfl)))))))
theorem y_8n {y : Int32} (h : y < 0 ∨ 8 ≤ y) : ¬ y = 0 ∧ ¬ y = 1 ∧ ¬ y = 2 ∧ ¬ y = 3 ∧ ¬ y = 4 ∧ ¬ y = 5 ∧ ¬ y = 6 ∧ ¬ y = 7 := by
  refine ⟨?_, ?_, ?_, ?_, ?_, ?_, ?_, ?_⟩ <;> (rintro rfl; exact absurd h (by decide))
theorem y_10 {y : Int32} (h0 : ¬ y < 0) (h1 : y < 10) : y = 0 ∨ y = 1 ∨ y = 2 ∨ y = 3 ∨ y = 4 ∨ y = 5 ∨ y = 6 ∨ y = 7 ∨ y = 8 ∨ y = 9 := by
  obtain ⟨j, hj, rfl⟩ := nI_of h0
  have hj2 : j < 10 := (nI_ltI (b := 10) hj (by decide)).mp h1
  have h : j = 0 ∨ j = 1 ∨ j = 2 ∨ j = 3 ∨ j = 4 ∨ j = 5 ∨ j = 6 ∨ j = 7 ∨ j = 8 ∨ j = 9 := by omega
  rcases h with rfl | rfl | rfl | rfl | rfl | rfl | rfl | rfl | rfl | rfl
  · exact Or.inl rfl
  · exact Or.inr (Or.inl rfl)
  · exact Or.inr (Or.inr (Or.inl rfl))
  · exact Or.inr (Or.inr (Or.inr (Or.inl rfl)))
  · exact Or.inr (Or.inr (Or.inr (Or.inr (Or.inl rfl))))
  · exact Or.inr (Or.inr (Or.inr (Or.inr (Or.inr (Or.inl rfl)))))
  · exact Or.inr (Or.inr (Or.inr (Or.inr (Or.inr (Or.inr (Or.inl rfl))))))
  · exact Or.inr (Or.inr (Or.inr (Or.inr (Or.inr (Or.inr (Or.inr (Or.inl rfl)))))))
  · exact Or.inr (Or.inr (Or.inr (Or.inr (Or.inr (Or.inr (Or.inr (Or.inr (Or.inl rfl))))))))
  · exact Or.inr (Or.inr (Or.inr (Or.inr (Or.inr (Or.inr (Or.inr (Or.inr (Or.inr (rfl)))))))))
theorem y_10n {y : Int32} (h : y < 0 ∨ 10 ≤ y) : ¬ y = 0 ∧ ¬ y = 1 ∧ ¬ y = 2 ∧ ¬ y = 3 ∧ ¬ y = 4 ∧ ¬ y = 5 ∧ ¬ y = 6 ∧ ¬ y = 7 ∧ ¬ y = 8 ∧ ¬ y = 9 := by
  refine ⟨?_, ?_, ?_, ?_, ?_, ?_, ?_, ?_, ?_, ?_⟩ <;> (rintro rfl; exact absurd h (by decide))
theorem y_13 {y : Int32} (h0 : ¬ y < 0) (h1 : y < 13) : y = 0 ∨ y = 1 ∨ y = 2 ∨ y = 3 ∨ y = 4 ∨ y = 5 ∨ y = 6 ∨ y = 7 ∨ y = 8 ∨ y = 9 ∨ y = 10 ∨ y = 11 ∨ y = 12 := by
  obtain ⟨j, hj, rfl⟩ := nI_of h0
  have hj2 : j < 13 := (nI_ltI (b := 13) hj (by decide)).mp h1
  have h : j = 0 ∨ j = 1 ∨ j = 2 ∨ j = 3 ∨ j = 4 ∨ j = 5 ∨ j = 6 ∨ j = 7 ∨ j = 8 ∨ j = 9 ∨ j = 10 ∨ j = 11 ∨ j = 12 := by omega
  rcases h with rfl | rfl | rfl | rfl | rfl | rfl | rfl | rfl | rfl | rfl | rfl | rfl | rfl
  · exact Or.inl rfl
  · exact Or.inr (Or.inl rfl)
  · exact Or.inr (Or.inr (Or.inl rfl))
  · exact Or.inr (Or.inr (Or.inr (Or.inl rfl)))
  · exact Or.inr (Or.inr (Or.inr (Or.inr (Or.inl rfl))))
  · exact Or.inr (Or.inr (Or.inr (Or.inr (Or.inr (Or.inl rfl)))))
  · exact Or.inr (Or.inr (Or.inr (Or.inr (Or.inr (Or.inr (Or.inl rfl))))))
  · exact Or.inr (Or.inr (Or.inr (Or.inr (Or.inr (Or.inr (Or.inr (Or.inl rfl)))))))
  · exact Or.inr (Or.inr (Or.inr (Or.inr (Or.inr (Or.inr (Or.inr (Or.inr (Or.inl rfl))))))))
  · exact Or.inr (Or.inr (Or.inr (Or.inr (Or.inr (Or.inr (Or.inr (Or.inr (Or.inr (Or.inl rfl)))))))))
  · exact Or.inr (Or.inr (Or.inr (Or.inr (Or.inr (Or.inr (Or.inr (Or.inr (Or.inr (Or.inr (Or.inl rfl))))))))))
  · exact Or.inr (Or.inr (Or.inr (Or.inr (Or.inr (Or.inr (Or.inr (Or.inr (Or.inr (Or.inr (Or.inr (Or.inl rfl)))))))))))
  · exact Or.inr (Or.inr (Or.inr (Or.inr (Or.inr (Or.inr (Or.inr (Or.inr (Or.inr (Or.inr (Or.inr (Or.inr (rfl))))))))))))
theorem y_13n {y : Int32} (h : y < 0 ∨ 13 ≤ y) : ¬ y = 0 ∧ ¬ y = 1 ∧ ¬ y = 2 ∧ ¬ y = 3 ∧ ¬ y = 4 ∧ ¬ y = 5 ∧ ¬ y = 6 ∧ ¬ y = 7 ∧ ¬ y = 8 ∧ ¬ y = 9 ∧ ¬ y = 10 ∧ ¬ y = 11 ∧ ¬ y = 12 := by
  refine ⟨?_, ?_, ?_, ?_, ?_, ?_, ?_, ?_, ?_, ?_, ?_, ?_, ?_⟩ <;> (rintro rfl; exact absurd h (by decide))
theorem eq_box {nl nt nc nq : Nat} {td : Int32} {rf f to mv tf cf qf plf ki he un wi va ht pl ow li ho co bo pt pr : Nat → Int32} {x y : Int32} {c : Nat} (h : rlF nl td rf f) (h6 : to 6 = nI nl) (hnt : nt ≤ 12) (hnc : nc ≤ 5) (hT : rlT nt tf ki he un wi va ht) (hC : rlC nc cf ow li ho co bo) (hL : rlL nt plf pl) (hW : wtOK nt tf) (hl : liOK nc cf) (k1 : to 1 = nI nc) (hc : c < nc) (hx : x = nI c) (h0 : ¬ y < 0) (h1 : y < 10) : s_X13_box nt to ow li ho co bo ki he wi ht pl f nl x y = s_X12_box nl nt td cf tf rf plf x y ∧ s_X13_box_2_1 mv to x y = upd mv 2 0 := by
  have hi := cs_in k1 (by omega) hc hx
  subst hx
  have cl := nI_clamp (n := c) (by omega)
  obtain ⟨c0, c1, c2, c3, c4⟩ := hC c hc
  unfold s_X13_box s_X13_box_2_1 s_X12_box
  rw [if_neg hi, if_neg hi, cl]
  rcases y_10 h0 h1 with rfl | rfl | rfl | rfl | rfl | rfl | rfl | rfl | rfl | rfl
  · simp only [show ¬ (0 : Int32) = 1 from by decide, show ¬ (0 : Int32) = 2 from by decide, show ¬ (0 : Int32) = 3 from by decide, show ¬ (0 : Int32) = 4 from by decide, show ¬ (0 : Int32) = 5 from by decide, show ¬ (0 : Int32) = 6 from by decide, show ¬ (0 : Int32) = 7 from by decide, show ¬ (0 : Int32) = 8 from by decide, show ¬ (0 : Int32) = 9 from by decide, if_true, if_false]
    rw [ta3 5 0 rfl 5 0 rfl rfl (by omega) (by decide)]; exact ⟨c0, trivial⟩
  · simp only [show ¬ (1 : Int32) = 0 from by decide, show ¬ (1 : Int32) = 2 from by decide, show ¬ (1 : Int32) = 3 from by decide, show ¬ (1 : Int32) = 4 from by decide, show ¬ (1 : Int32) = 5 from by decide, show ¬ (1 : Int32) = 6 from by decide, show ¬ (1 : Int32) = 7 from by decide, show ¬ (1 : Int32) = 8 from by decide, show ¬ (1 : Int32) = 9 from by decide, if_true, if_false]
    rw [ta3 5 1 rfl 5 1 rfl rfl (by omega) (by decide)]; exact ⟨c1, trivial⟩
  · simp only [show ¬ (2 : Int32) = 0 from by decide, show ¬ (2 : Int32) = 1 from by decide, show ¬ (2 : Int32) = 3 from by decide, show ¬ (2 : Int32) = 4 from by decide, show ¬ (2 : Int32) = 5 from by decide, show ¬ (2 : Int32) = 6 from by decide, show ¬ (2 : Int32) = 7 from by decide, show ¬ (2 : Int32) = 8 from by decide, show ¬ (2 : Int32) = 9 from by decide, if_true, if_false]
    rw [ta3 5 2 rfl 5 2 rfl rfl (by omega) (by decide)]; exact ⟨c2, trivial⟩
  · simp only [show ¬ (3 : Int32) = 0 from by decide, show ¬ (3 : Int32) = 1 from by decide, show ¬ (3 : Int32) = 2 from by decide, show ¬ (3 : Int32) = 4 from by decide, show ¬ (3 : Int32) = 5 from by decide, show ¬ (3 : Int32) = 6 from by decide, show ¬ (3 : Int32) = 7 from by decide, show ¬ (3 : Int32) = 8 from by decide, show ¬ (3 : Int32) = 9 from by decide, if_true, if_false]
    rw [ta3 5 3 rfl 5 3 rfl rfl (by omega) (by decide)]; exact ⟨c3, trivial⟩
  · simp only [show ¬ (4 : Int32) = 0 from by decide, show ¬ (4 : Int32) = 1 from by decide, show ¬ (4 : Int32) = 2 from by decide, show ¬ (4 : Int32) = 3 from by decide, show ¬ (4 : Int32) = 5 from by decide, show ¬ (4 : Int32) = 6 from by decide, show ¬ (4 : Int32) = 7 from by decide, show ¬ (4 : Int32) = 8 from by decide, show ¬ (4 : Int32) = 9 from by decide, if_true, if_false]
    rw [ta3 5 4 rfl 5 4 rfl rfl (by omega) (by decide)]; exact ⟨c4, trivial⟩
  · simp only [show ¬ (5 : Int32) = 0 from by decide, show ¬ (5 : Int32) = 1 from by decide, show ¬ (5 : Int32) = 2 from by decide, show ¬ (5 : Int32) = 3 from by decide, show ¬ (5 : Int32) = 4 from by decide, show ¬ (5 : Int32) = 6 from by decide, show ¬ (5 : Int32) = 7 from by decide, show ¬ (5 : Int32) = 8 from by decide, show ¬ (5 : Int32) = 9 from by decide, if_true, if_false]
    exact ⟨eq_weight hnt hT hL, trivial⟩
  · simp only [show ¬ (6 : Int32) = 0 from by decide, show ¬ (6 : Int32) = 1 from by decide, show ¬ (6 : Int32) = 2 from by decide, show ¬ (6 : Int32) = 3 from by decide, show ¬ (6 : Int32) = 4 from by decide, show ¬ (6 : Int32) = 5 from by decide, show ¬ (6 : Int32) = 7 from by decide, show ¬ (6 : Int32) = 8 from by decide, show ¬ (6 : Int32) = 9 from by decide, if_true, if_false]
    exact ⟨eq_sizes hnt hT hL, trivial⟩
  · simp only [show ¬ (7 : Int32) = 0 from by decide, show ¬ (7 : Int32) = 1 from by decide, show ¬ (7 : Int32) = 2 from by decide, show ¬ (7 : Int32) = 3 from by decide, show ¬ (7 : Int32) = 4 from by decide, show ¬ (7 : Int32) = 5 from by decide, show ¬ (7 : Int32) = 6 from by decide, show ¬ (7 : Int32) = 8 from by decide, show ¬ (7 : Int32) = 9 from by decide, if_true, if_false]
    refine ⟨?_, trivial⟩
    unfold s_X13_overOf
    rw [cl]
    exact eq_over hnt hT hC hL hc hnc
  · simp only [show ¬ (8 : Int32) = 0 from by decide, show ¬ (8 : Int32) = 1 from by decide, show ¬ (8 : Int32) = 2 from by decide, show ¬ (8 : Int32) = 3 from by decide, show ¬ (8 : Int32) = 4 from by decide, show ¬ (8 : Int32) = 5 from by decide, show ¬ (8 : Int32) = 6 from by decide, show ¬ (8 : Int32) = 7 from by decide, show ¬ (8 : Int32) = 9 from by decide, if_true, if_false]
    exact ⟨fee_of h h6 hnt hnc hT hC hL hW hl hc, trivial⟩
  · simp only [show ¬ (9 : Int32) = 0 from by decide, show ¬ (9 : Int32) = 1 from by decide, show ¬ (9 : Int32) = 2 from by decide, show ¬ (9 : Int32) = 3 from by decide, show ¬ (9 : Int32) = 4 from by decide, show ¬ (9 : Int32) = 5 from by decide, show ¬ (9 : Int32) = 6 from by decide, show ¬ (9 : Int32) = 7 from by decide, show ¬ (9 : Int32) = 8 from by decide, if_true, if_false]
    exact ⟨(eq_bits hnt hL nt (Nat.le_refl _)).1, trivial⟩
theorem no_box {to mv : Nat → Int32} {x y : Int32} {nc : Nat} (k1 : to 1 = nI nc) (hn : nc ≤ 5) (h : (¬ ∃ c : Nat, c < nc ∧ x = nI c) ∨ (y < 0 ∨ 10 ≤ y)) : s_X13_box_2_1 mv to x y = upd (upd mv 2 0) 2 1 := by
  unfold s_X13_box_2_1
  by_cases q : s_X13_isCase to x = 0
  · rw [if_pos q]
  · rw [if_neg q]
    have h2 : y < 0 ∨ 10 ≤ y := h.resolve_left (fun z => q (cs_out k1 (by omega) z))
    obtain ⟨n0, n1, n2, n3, n4, n5, n6, n7, n8, n9⟩ := y_10n h2
    rw [if_neg n0, if_neg n1, if_neg n2, if_neg n3, if_neg n4, if_neg n5, if_neg n6, if_neg n7, if_neg n8, if_neg n9]
theorem eq_person {nt nc np c : Nat} {to mv tf cf pf plf ki he un wi va ht pl ow li ho co bo own po be : Nat → Int32} {x y : Int32} (hnt : nt ≤ 12) (hnc : nc ≤ 5) (hnp : np ≤ 4) (hT : rlT nt tf ki he un wi va ht) (hC : rlC nc cf ow li ho co bo) (hP : rlP np pf own po be) (hL : rlL nt plf pl) (hz : ∀ t : Nat, t < nt → ¬ ki t = 1 → ht t = 0) (k0 : to 0 = nI np) (k1 : to 1 = nI nc) (hc : c < np) (hx : x = nI c) (h0 : ¬ y < 0) (h1 : y < 6) : s_X13_person nt to own po be ow ki he wi ht pl x y = s_X12_person nt nc pf cf tf plf x y ∧ s_X13_person_0_1 nt mv to ow ki pl x y = upd mv 2 0 := by
  have hi := pe_in k0 (by omega) hc hx
  have cl := nI_clamp (n := c) (by omega)
  obtain ⟨c0, c1, c2⟩ := hP c hc
  unfold s_X13_person s_X13_person_0_1 s_X12_person
  rw [if_neg hi, if_neg hi, eq_shirt hnt hnc hT hC hL k1]
  rcases y_6 h0 h1 with rfl | rfl | rfl | rfl | rfl | rfl
  · simp only [show ¬ (0 : Int32) = 1 from by decide, show ¬ (0 : Int32) = 2 from by decide, show ¬ (0 : Int32) = 3 from by decide, show ¬ (0 : Int32) = 4 from by decide, show ¬ (0 : Int32) = 5 from by decide, if_true, if_false, ite_self]
    rw [hx, cl, ta3 3 0 rfl 3 0 rfl rfl (by omega) (by decide)]; exact ⟨c0, trivial⟩
  · simp only [show ¬ (1 : Int32) = 0 from by decide, show ¬ (1 : Int32) = 2 from by decide, show ¬ (1 : Int32) = 3 from by decide, show ¬ (1 : Int32) = 4 from by decide, show ¬ (1 : Int32) = 5 from by decide, if_true, if_false, ite_self]
    rw [hx, cl, ta3 3 1 rfl 3 1 rfl rfl (by omega) (by decide)]; exact ⟨c1, trivial⟩
  · simp only [show ¬ (2 : Int32) = 0 from by decide, show ¬ (2 : Int32) = 1 from by decide, show ¬ (2 : Int32) = 3 from by decide, show ¬ (2 : Int32) = 4 from by decide, show ¬ (2 : Int32) = 5 from by decide, if_true, if_false, ite_self]
    rw [hx, cl, ta3 3 2 rfl 3 2 rfl rfl (by omega) (by decide)]; exact ⟨c2, trivial⟩
  · simp only [show ¬ (3 : Int32) = 0 from by decide, show ¬ (3 : Int32) = 1 from by decide, show ¬ (3 : Int32) = 2 from by decide, show ¬ (3 : Int32) = 4 from by decide, show ¬ (3 : Int32) = 5 from by decide, if_true, if_false, ite_self]
    exact ⟨eq_heat hnt hT hL hz, trivial⟩
  · simp only [show ¬ (4 : Int32) = 0 from by decide, show ¬ (4 : Int32) = 1 from by decide, show ¬ (4 : Int32) = 2 from by decide, show ¬ (4 : Int32) = 3 from by decide, show ¬ (4 : Int32) = 5 from by decide, if_true, if_false, ite_self]
    exact ⟨eq_soft hnt hT hL, trivial⟩
  · simp only [show ¬ (5 : Int32) = 0 from by decide, show ¬ (5 : Int32) = 1 from by decide, show ¬ (5 : Int32) = 2 from by decide, show ¬ (5 : Int32) = 3 from by decide, show ¬ (5 : Int32) = 4 from by decide, if_true, if_false, ite_self]
    trivial
theorem no_person {to mv ow ki pl : Nat → Int32} {x y : Int32} {nt np : Nat} (k0 : to 0 = nI np) (hn : np ≤ 4) (h : (¬ ∃ c : Nat, c < np ∧ x = nI c) ∨ (y < 0 ∨ 6 ≤ y)) : s_X13_person_0_1 nt mv to ow ki pl x y = upd (upd mv 2 0) 2 1 := by
  unfold s_X13_person_0_1
  by_cases q : s_X13_isPerson to x = 0
  · rw [if_pos q]
  · rw [if_neg q]
    have h2 : y < 0 ∨ 6 ≤ y := h.resolve_left (fun z => q (pe_out k0 (by omega) z))
    obtain ⟨n0, n1, n2, n3, n4, n5⟩ := y_6n h2
    rw [if_neg n0, if_neg n1, if_neg n2, if_neg n3, if_neg n4, if_neg n5]
theorem eq_thing {nt nq c : Nat} {to mv tf qf plf ki he un wi va ht pl pt pr : Nat → Int32} {x y : Int32} (hnt : nt ≤ 12) (hnq : nq ≤ 6) (hT : rlT nt tf ki he un wi va ht) (hQ : rlQ nq qf pt pr) (hL : rlL nt plf pl) (k2 : to 2 = nI nt) (hc : c < nt) (hx : x = nI c) (h0 : ¬ y < 0) (h1 : y < 8) : s_X13_thing nq to ki he un wi va ht pl pt pr x y = s_X12_thing nq tf qf plf x y ∧ s_X13_thing_0_1 mv to x y = upd mv 2 0 := by
  have hi := th_in k2 (by omega) hc hx
  subst hx
  have cl := nI_clamp (n := c) (by omega)
  obtain ⟨t0, t1, t2, t3, t4, t6⟩ := hT c hc
  unfold s_X13_thing s_X13_thing_0_1 s_X12_thing
  rw [if_neg hi, if_neg hi, cl]
  rcases y_8 h0 h1 with rfl | rfl | rfl | rfl | rfl | rfl | rfl | rfl
  · simp only [show ¬ (0 : Int32) = 1 from by decide, show ¬ (0 : Int32) = 2 from by decide, show ¬ (0 : Int32) = 3 from by decide, show ¬ (0 : Int32) = 4 from by decide, show ¬ (0 : Int32) = 5 from by decide, show ¬ (0 : Int32) = 6 from by decide, show ¬ (0 : Int32) = 7 from by decide, if_true, if_false]
    rw [ta3 7 0 rfl 7 0 rfl rfl (by omega) (by decide)]; exact ⟨t0, trivial⟩
  · simp only [show ¬ (1 : Int32) = 0 from by decide, show ¬ (1 : Int32) = 2 from by decide, show ¬ (1 : Int32) = 3 from by decide, show ¬ (1 : Int32) = 4 from by decide, show ¬ (1 : Int32) = 5 from by decide, show ¬ (1 : Int32) = 6 from by decide, show ¬ (1 : Int32) = 7 from by decide, if_true, if_false]
    rw [ta3 7 1 rfl 7 1 rfl rfl (by omega) (by decide)]; exact ⟨t1, trivial⟩
  · simp only [show ¬ (2 : Int32) = 0 from by decide, show ¬ (2 : Int32) = 1 from by decide, show ¬ (2 : Int32) = 3 from by decide, show ¬ (2 : Int32) = 4 from by decide, show ¬ (2 : Int32) = 5 from by decide, show ¬ (2 : Int32) = 6 from by decide, show ¬ (2 : Int32) = 7 from by decide, if_true, if_false]
    rw [ta3 7 2 rfl 7 2 rfl rfl (by omega) (by decide)]; exact ⟨t2, trivial⟩
  · simp only [show ¬ (3 : Int32) = 0 from by decide, show ¬ (3 : Int32) = 1 from by decide, show ¬ (3 : Int32) = 2 from by decide, show ¬ (3 : Int32) = 4 from by decide, show ¬ (3 : Int32) = 5 from by decide, show ¬ (3 : Int32) = 6 from by decide, show ¬ (3 : Int32) = 7 from by decide, if_true, if_false]
    rw [ta3 7 3 rfl 7 3 rfl rfl (by omega) (by decide)]; exact ⟨t3, trivial⟩
  · simp only [show ¬ (4 : Int32) = 0 from by decide, show ¬ (4 : Int32) = 1 from by decide, show ¬ (4 : Int32) = 2 from by decide, show ¬ (4 : Int32) = 3 from by decide, show ¬ (4 : Int32) = 5 from by decide, show ¬ (4 : Int32) = 6 from by decide, show ¬ (4 : Int32) = 7 from by decide, if_true, if_false]
    rw [ta3 7 4 rfl 7 4 rfl rfl (by omega) (by decide)]; exact ⟨t4, trivial⟩
  · simp only [show ¬ (5 : Int32) = 0 from by decide, show ¬ (5 : Int32) = 1 from by decide, show ¬ (5 : Int32) = 2 from by decide, show ¬ (5 : Int32) = 3 from by decide, show ¬ (5 : Int32) = 4 from by decide, show ¬ (5 : Int32) = 6 from by decide, show ¬ (5 : Int32) = 7 from by decide, if_true, if_false]
    rw [tat_in (show c < 12 by omega) (by decide)]; exact ⟨hL c hc, trivial⟩
  · simp only [show ¬ (6 : Int32) = 0 from by decide, show ¬ (6 : Int32) = 1 from by decide, show ¬ (6 : Int32) = 2 from by decide, show ¬ (6 : Int32) = 3 from by decide, show ¬ (6 : Int32) = 4 from by decide, show ¬ (6 : Int32) = 5 from by decide, show ¬ (6 : Int32) = 7 from by decide, if_true, if_false]
    rw [ta3 7 6 rfl 7 6 rfl rfl (by omega) (by decide)]; exact ⟨t6, trivial⟩
  · simp only [show ¬ (7 : Int32) = 0 from by decide, show ¬ (7 : Int32) = 1 from by decide, show ¬ (7 : Int32) = 2 from by decide, show ¬ (7 : Int32) = 3 from by decide, show ¬ (7 : Int32) = 4 from by decide, show ¬ (7 : Int32) = 5 from by decide, show ¬ (7 : Int32) = 6 from by decide, if_true, if_false]
    exact ⟨eq_price hnt hnq hT hQ hc, trivial⟩
theorem no_thing {to mv : Nat → Int32} {x y : Int32} {nt : Nat} (k2 : to 2 = nI nt) (hn : nt ≤ 12) (h : (¬ ∃ c : Nat, c < nt ∧ x = nI c) ∨ (y < 0 ∨ 8 ≤ y)) : s_X13_thing_0_1 mv to x y = upd (upd mv 2 0) 2 1 := by
  unfold s_X13_thing_0_1
  by_cases q : s_X13_isThing to x = 0
  · rw [if_pos q]
  · rw [if_neg q]
    have h2 : y < 0 ∨ 8 ≤ y := h.resolve_left (fun z => q (th_out k2 (by omega) z))
    obtain ⟨n0, n1, n2, n3, n4, n5, n6, n7⟩ := y_8n h2
    rw [if_neg n0, if_neg n1, if_neg n2, if_neg n3, if_neg n4, if_neg n5, if_neg n6, if_neg n7]
theorem eq_count {to mv hv st tf2 : Nat → Int32} {ln op ak sk x : Int32} (a0 : to 0 = hv 5) (a1 : to 1 = hv 6) (a2 : to 2 = hv 7) (a3 : to 3 = hv 8) (a4 : to 4 = hv 10) (a5 : to 5 = hv 11) (a6 : mv 36 = op) (a7 : mv 37 = ak) (a8 : mv 38 = sk) (a9 : mv 24 = ln) (hs : ∀ i : Nat, i < 3 → st i = tf2 i) (h0 : ¬ x < 0) (h1 : x < 13) : s_X13_count mv to st x = s_X12_count ln op ak sk hv tf2 x ∧ s_X13_count_0_1 mv x = upd mv 2 0 := by
  unfold s_X13_count s_X13_count_0_1 s_X12_count
  have b0 : tat 3 tf2 (10 - 10) = tf2 0 := tat_in (j := 0) (by decide) (by decide)
  have b1 : tat 3 tf2 (11 - 10) = tf2 1 := tat_in (j := 1) (by decide) (by decide)
  have b2 : tat 3 tf2 (12 - 10) = tf2 2 := tat_in (j := 2) (by decide) (by decide)
  rcases y_13 h0 h1 with rfl | rfl | rfl | rfl | rfl | rfl | rfl | rfl | rfl | rfl | rfl | rfl | rfl
  · rw [show s_X13_isIn (0 : Int32).toInt64 0 5 = 1 by decide]
    simp only [show ¬ (0 : Int32) = 1 from by decide, show ¬ (0 : Int32) = 2 from by decide, show ¬ (0 : Int32) = 3 from by decide, show ¬ (0 : Int32) = 4 from by decide, show ¬ (0 : Int32) = 5 from by decide, show ¬ (0 : Int32) = 6 from by decide, show ¬ (0 : Int32) = 7 from by decide, show ¬ (0 : Int32) = 8 from by decide, show ¬ (0 : Int32) = 9 from by decide, show ¬ (0 : Int32) = 10 from by decide, show ¬ (0 : Int32) = 11 from by decide, show ¬ (0 : Int32) = 12 from by decide, show ¬ (1 : Int32) = 0 from by decide, if_true, if_false]
    exact ⟨a0, trivial⟩
  · rw [show s_X13_isIn (1 : Int32).toInt64 0 5 = 1 by decide]
    simp only [show ¬ (1 : Int32) = 0 from by decide, show ¬ (1 : Int32) = 2 from by decide, show ¬ (1 : Int32) = 3 from by decide, show ¬ (1 : Int32) = 4 from by decide, show ¬ (1 : Int32) = 5 from by decide, show ¬ (1 : Int32) = 6 from by decide, show ¬ (1 : Int32) = 7 from by decide, show ¬ (1 : Int32) = 8 from by decide, show ¬ (1 : Int32) = 9 from by decide, show ¬ (1 : Int32) = 10 from by decide, show ¬ (1 : Int32) = 11 from by decide, show ¬ (1 : Int32) = 12 from by decide, show ¬ (1 : Int32) = 0 from by decide, if_true, if_false]
    exact ⟨a1, trivial⟩
  · rw [show s_X13_isIn (2 : Int32).toInt64 0 5 = 1 by decide]
    simp only [show ¬ (2 : Int32) = 0 from by decide, show ¬ (2 : Int32) = 1 from by decide, show ¬ (2 : Int32) = 3 from by decide, show ¬ (2 : Int32) = 4 from by decide, show ¬ (2 : Int32) = 5 from by decide, show ¬ (2 : Int32) = 6 from by decide, show ¬ (2 : Int32) = 7 from by decide, show ¬ (2 : Int32) = 8 from by decide, show ¬ (2 : Int32) = 9 from by decide, show ¬ (2 : Int32) = 10 from by decide, show ¬ (2 : Int32) = 11 from by decide, show ¬ (2 : Int32) = 12 from by decide, show ¬ (1 : Int32) = 0 from by decide, if_true, if_false]
    exact ⟨a2, trivial⟩
  · rw [show s_X13_isIn (3 : Int32).toInt64 0 5 = 1 by decide]
    simp only [show ¬ (3 : Int32) = 0 from by decide, show ¬ (3 : Int32) = 1 from by decide, show ¬ (3 : Int32) = 2 from by decide, show ¬ (3 : Int32) = 4 from by decide, show ¬ (3 : Int32) = 5 from by decide, show ¬ (3 : Int32) = 6 from by decide, show ¬ (3 : Int32) = 7 from by decide, show ¬ (3 : Int32) = 8 from by decide, show ¬ (3 : Int32) = 9 from by decide, show ¬ (3 : Int32) = 10 from by decide, show ¬ (3 : Int32) = 11 from by decide, show ¬ (3 : Int32) = 12 from by decide, show ¬ (1 : Int32) = 0 from by decide, if_true, if_false]
    exact ⟨a3, trivial⟩
  · rw [show s_X13_isIn (4 : Int32).toInt64 0 5 = 1 by decide]
    simp only [show ¬ (4 : Int32) = 0 from by decide, show ¬ (4 : Int32) = 1 from by decide, show ¬ (4 : Int32) = 2 from by decide, show ¬ (4 : Int32) = 3 from by decide, show ¬ (4 : Int32) = 5 from by decide, show ¬ (4 : Int32) = 6 from by decide, show ¬ (4 : Int32) = 7 from by decide, show ¬ (4 : Int32) = 8 from by decide, show ¬ (4 : Int32) = 9 from by decide, show ¬ (4 : Int32) = 10 from by decide, show ¬ (4 : Int32) = 11 from by decide, show ¬ (4 : Int32) = 12 from by decide, show ¬ (1 : Int32) = 0 from by decide, if_true, if_false]
    exact ⟨a4, trivial⟩
  · rw [show s_X13_isIn (5 : Int32).toInt64 0 5 = 1 by decide]
    simp only [show ¬ (5 : Int32) = 0 from by decide, show ¬ (5 : Int32) = 1 from by decide, show ¬ (5 : Int32) = 2 from by decide, show ¬ (5 : Int32) = 3 from by decide, show ¬ (5 : Int32) = 4 from by decide, show ¬ (5 : Int32) = 6 from by decide, show ¬ (5 : Int32) = 7 from by decide, show ¬ (5 : Int32) = 8 from by decide, show ¬ (5 : Int32) = 9 from by decide, show ¬ (5 : Int32) = 10 from by decide, show ¬ (5 : Int32) = 11 from by decide, show ¬ (5 : Int32) = 12 from by decide, show ¬ (1 : Int32) = 0 from by decide, if_true, if_false]
    exact ⟨a5, trivial⟩
  · rw [show s_X13_isIn (6 : Int32).toInt64 0 5 = 0 by decide]
    simp only [show ¬ (6 : Int32) = 0 from by decide, show ¬ (6 : Int32) = 1 from by decide, show ¬ (6 : Int32) = 2 from by decide, show ¬ (6 : Int32) = 3 from by decide, show ¬ (6 : Int32) = 4 from by decide, show ¬ (6 : Int32) = 5 from by decide, show ¬ (6 : Int32) = 7 from by decide, show ¬ (6 : Int32) = 8 from by decide, show ¬ (6 : Int32) = 9 from by decide, show ¬ (6 : Int32) = 10 from by decide, show ¬ (6 : Int32) = 11 from by decide, show ¬ (6 : Int32) = 12 from by decide, show ¬ (1 : Int32) = 0 from by decide, if_true, if_false]
    exact ⟨a6, trivial⟩
  · rw [show s_X13_isIn (7 : Int32).toInt64 0 5 = 0 by decide]
    simp only [show ¬ (7 : Int32) = 0 from by decide, show ¬ (7 : Int32) = 1 from by decide, show ¬ (7 : Int32) = 2 from by decide, show ¬ (7 : Int32) = 3 from by decide, show ¬ (7 : Int32) = 4 from by decide, show ¬ (7 : Int32) = 5 from by decide, show ¬ (7 : Int32) = 6 from by decide, show ¬ (7 : Int32) = 8 from by decide, show ¬ (7 : Int32) = 9 from by decide, show ¬ (7 : Int32) = 10 from by decide, show ¬ (7 : Int32) = 11 from by decide, show ¬ (7 : Int32) = 12 from by decide, show ¬ (1 : Int32) = 0 from by decide, if_true, if_false]
    exact ⟨a7, trivial⟩
  · rw [show s_X13_isIn (8 : Int32).toInt64 0 5 = 0 by decide]
    simp only [show ¬ (8 : Int32) = 0 from by decide, show ¬ (8 : Int32) = 1 from by decide, show ¬ (8 : Int32) = 2 from by decide, show ¬ (8 : Int32) = 3 from by decide, show ¬ (8 : Int32) = 4 from by decide, show ¬ (8 : Int32) = 5 from by decide, show ¬ (8 : Int32) = 6 from by decide, show ¬ (8 : Int32) = 7 from by decide, show ¬ (8 : Int32) = 9 from by decide, show ¬ (8 : Int32) = 10 from by decide, show ¬ (8 : Int32) = 11 from by decide, show ¬ (8 : Int32) = 12 from by decide, show ¬ (1 : Int32) = 0 from by decide, if_true, if_false]
    exact ⟨a8, trivial⟩
  · rw [show s_X13_isIn (9 : Int32).toInt64 0 5 = 0 by decide]
    simp only [show ¬ (9 : Int32) = 0 from by decide, show ¬ (9 : Int32) = 1 from by decide, show ¬ (9 : Int32) = 2 from by decide, show ¬ (9 : Int32) = 3 from by decide, show ¬ (9 : Int32) = 4 from by decide, show ¬ (9 : Int32) = 5 from by decide, show ¬ (9 : Int32) = 6 from by decide, show ¬ (9 : Int32) = 7 from by decide, show ¬ (9 : Int32) = 8 from by decide, show ¬ (9 : Int32) = 10 from by decide, show ¬ (9 : Int32) = 11 from by decide, show ¬ (9 : Int32) = 12 from by decide, show ¬ (1 : Int32) = 0 from by decide, if_true, if_false]
    exact ⟨a9, trivial⟩
  · rw [show s_X13_isIn (10 : Int32).toInt64 0 5 = 0 by decide]
    simp only [show ¬ (10 : Int32) = 0 from by decide, show ¬ (10 : Int32) = 1 from by decide, show ¬ (10 : Int32) = 2 from by decide, show ¬ (10 : Int32) = 3 from by decide, show ¬ (10 : Int32) = 4 from by decide, show ¬ (10 : Int32) = 5 from by decide, show ¬ (10 : Int32) = 6 from by decide, show ¬ (10 : Int32) = 7 from by decide, show ¬ (10 : Int32) = 8 from by decide, show ¬ (10 : Int32) = 9 from by decide, show ¬ (10 : Int32) = 11 from by decide, show ¬ (10 : Int32) = 12 from by decide, show ¬ (1 : Int32) = 0 from by decide, if_true, if_false]
    rw [b0]
    exact ⟨hs 0 (by decide), trivial⟩
  · rw [show s_X13_isIn (11 : Int32).toInt64 0 5 = 0 by decide]
    simp only [show ¬ (11 : Int32) = 0 from by decide, show ¬ (11 : Int32) = 1 from by decide, show ¬ (11 : Int32) = 2 from by decide, show ¬ (11 : Int32) = 3 from by decide, show ¬ (11 : Int32) = 4 from by decide, show ¬ (11 : Int32) = 5 from by decide, show ¬ (11 : Int32) = 6 from by decide, show ¬ (11 : Int32) = 7 from by decide, show ¬ (11 : Int32) = 8 from by decide, show ¬ (11 : Int32) = 9 from by decide, show ¬ (11 : Int32) = 10 from by decide, show ¬ (11 : Int32) = 12 from by decide, show ¬ (1 : Int32) = 0 from by decide, if_true, if_false]
    rw [b1]
    exact ⟨hs 1 (by decide), trivial⟩
  · rw [show s_X13_isIn (12 : Int32).toInt64 0 5 = 0 by decide]
    simp only [show ¬ (12 : Int32) = 0 from by decide, show ¬ (12 : Int32) = 1 from by decide, show ¬ (12 : Int32) = 2 from by decide, show ¬ (12 : Int32) = 3 from by decide, show ¬ (12 : Int32) = 4 from by decide, show ¬ (12 : Int32) = 5 from by decide, show ¬ (12 : Int32) = 6 from by decide, show ¬ (12 : Int32) = 7 from by decide, show ¬ (12 : Int32) = 8 from by decide, show ¬ (12 : Int32) = 9 from by decide, show ¬ (12 : Int32) = 10 from by decide, show ¬ (12 : Int32) = 11 from by decide, show ¬ (1 : Int32) = 0 from by decide, if_true, if_false]
    rw [b2]
    exact ⟨hs 2 (by decide), trivial⟩
theorem no_count {mv : Nat → Int32} {x : Int32} (h : x < 0 ∨ 13 ≤ x) : s_X13_count_0_1 mv x = upd (upd mv 2 0) 2 1 := by
  unfold s_X13_count_0_1
  obtain ⟨n0, n1, n2, n3, n4, n5, n6, n7, n8, n9, n10, n11, n12⟩ := y_13n h
  have q : s_X13_isIn x.toInt64 0 5 = 0 := (in_iff (t := 6) (k := 6) rfl (by decide)).mpr (fun ⟨c, hc, e⟩ => by
    have h : c = 0 ∨ c = 1 ∨ c = 2 ∨ c = 3 ∨ c = 4 ∨ c = 5 := by omega
    rcases h with rfl | rfl | rfl | rfl | rfl | rfl
    · exact n0 e
    · exact n1 e
    · exact n2 e
    · exact n3 e
    · exact n4 e
    · exact n5 e)
  rw [if_pos q, if_neg n6, if_neg n7, if_neg n8, if_neg n9, if_neg n10, if_neg n11, if_neg n12]
theorem eq_look {nl nt nc nq : Nat} {td : Int32} {rf f to mv tf cf qf plf ki he un wi va ht pl ow li ho co bo pt pr : Nat → Int32} {x y : Int32} {c : Nat} {hv : Nat → Int32} (h : rlF nl td rf f) (h6 : to 6 = nI nl) (hnt : nt ≤ 12) (hnc : nc ≤ 5) (hT : rlT nt tf ki he un wi va ht) (hC : rlC nc cf ow li ho co bo) (hL : rlL nt plf pl) (hW : wtOK nt tf) (hl : liOK nc cf) (k1 : to 1 = nI nc) (a4 : to 4 = hv 10) (a5 : to 5 = hv 11) (hc : c < nc) (hx : x = nI c) (h0 : ¬ y < 0) (h1 : y < 2) : s_X13_look nt to li bo ki he wi ht pl f nl x y = s_X12_look nl nt td hv cf tf rf plf x y ∧ s_X13_look_2_1 nt mv to li bo ki he wi ht pl f nl x y = upd mv 2 0 := by
  have hi := cs_in k1 (by omega) hc hx
  subst hx
  have cl := nI_clamp (n := c) (by omega)
  have y1 : y ≤ 1 := by
    obtain ⟨j, hj, rfl⟩ := nI_of h0
    have := (nI_ltI (b := 2) hj (by decide)).mp h1
    exact nI_le (b := 1) (by omega) (by decide)
  unfold s_X13_look s_X13_look_2_1 s_X12_look
  have eo : s_X13_overOf nt li ki he wi ht pl (nI c) = ovS nt cf tf plf (nI c) := by
    unfold s_X13_overOf
    rw [cl]
    exact eq_over hnt hT hC hL hc hnc
  rw [fee_of h h6 hnt hnc hT hC hL hW hl hc, eo, if_neg hi, if_neg hi, if_neg h0, if_neg h0, if_pos y1, if_pos y1, a4, a5]
  refine ⟨rfl, ?_⟩
  simp only [ite_self]
theorem no_look {nt nc ns : Nat} {mv to li bo ki he wi ht pl f : Nat → Int32} {x y : Int32} (k1 : to 1 = nI nc) (hn : nc ≤ 5) (h : (¬ ∃ c : Nat, c < nc ∧ x = nI c) ∨ (y < 0 ∨ 2 ≤ y)) : s_X13_look_2_1 nt mv to li bo ki he wi ht pl f ns x y = upd (upd mv 2 0) 2 1 := by
  unfold s_X13_look_2_1
  by_cases q : s_X13_isCase to x = 0
  · rw [if_pos q]
  · rw [if_neg q]
    have h2 : y < 0 ∨ 2 ≤ y := h.resolve_left (fun z => q (cs_out k1 (by omega) z))
    by_cases y0 : y < 0
    · rw [if_pos y0]
    · rw [if_neg y0, if_neg]
      intro y1
      exact absurd (Int32.le_trans (h2.resolve_left y0) y1) (by decide)
end
