/-! what a rule that is read gives: the class's value and the reference's are one, whatever lay in their cells ahead -/
noncomputable section
theorem mC_num {v : Int32} (h : ¬ v ≤ -10) : mC v = v := by
  unfold mC
  rw [if_neg (fun q => h (by rw [q]; decide)), if_neg (fun q => h (by rw [q]; decide)), if_neg (fun q => h (by rw [q]; decide)), if_neg (fun q => h (by rw [q]; decide)), if_neg (fun q => h (by rw [q]; decide)), if_neg (fun q => h (by rw [q]; decide)), if_neg (fun q => h (by rw [q]; decide)), if_neg (fun q => h (by rw [q]; decide)), if_neg (fun q => h (by rw [q]; decide))]
theorem rp_10 {v : Int32} (h1 : v ≤ -10) (h2 : -19 < v) : v = -10 ∨ v = -11 ∨ v = -12 ∨ v = -13 ∨ v = -14 ∨ v = -15 ∨ v = -16 ∨ v = -17 ∨ v = -18 := by
  have a1 := Int32.le_iff_toInt_le.mp h1
  have a2 := Int32.lt_iff_toInt_lt.mp h2
  have e1 : (-10 : Int32).toInt = -10 := by decide
  have e2 : (-19 : Int32).toInt = -19 := by decide
  rw [e1] at a1
  rw [e2] at a2
  have h : v.toInt = -10 ∨ v.toInt = -11 ∨ v.toInt = -12 ∨ v.toInt = -13 ∨ v.toInt = -14 ∨ v.toInt = -15 ∨ v.toInt = -16 ∨ v.toInt = -17 ∨ v.toInt = -18 := by omega
  rcases h with h | h | h | h | h | h | h | h | h
  · exact Or.inl (Int32.toInt_inj.mp (h.trans (by decide)))
  · exact Or.inr (Or.inl (Int32.toInt_inj.mp (h.trans (by decide))))
  · exact Or.inr (Or.inr (Or.inl (Int32.toInt_inj.mp (h.trans (by decide)))))
  · exact Or.inr (Or.inr (Or.inr (Or.inl (Int32.toInt_inj.mp (h.trans (by decide))))))
  · exact Or.inr (Or.inr (Or.inr (Or.inr (Or.inl (Int32.toInt_inj.mp (h.trans (by decide)))))))
  · exact Or.inr (Or.inr (Or.inr (Or.inr (Or.inr (Or.inl (Int32.toInt_inj.mp (h.trans (by decide))))))))
  · exact Or.inr (Or.inr (Or.inr (Or.inr (Or.inr (Or.inr (Or.inl (Int32.toInt_inj.mp (h.trans (by decide)))))))))
  · exact Or.inr (Or.inr (Or.inr (Or.inr (Or.inr (Or.inr (Or.inr (Or.inl (Int32.toInt_inj.mp (h.trans (by decide))))))))))
  · exact Or.inr (Or.inr (Or.inr (Or.inr (Or.inr (Or.inr (Or.inr (Or.inr (Int32.toInt_inj.mp (h.trans (by decide))))))))))
theorem jn_eq {v : Int32} (h1 : v ≤ -10) (h2 : ¬ v = -12) (h3 : -19 < v) (x y : Int32) : mC v ≤ -20 ∧ ¬ mC v = -28 ∧ jn v x y = s_X13_reckon (mC v) x y := by
  rcases rp_10 h1 h3 with h | h | h | h | h | h | h | h | h
  · subst h; exact ⟨by decide, by decide, rfl⟩
  · subst h; exact ⟨by decide, by decide, rfl⟩
  · exact absurd h h2
  · subst h; exact ⟨by decide, by decide, rfl⟩
  · subst h; exact ⟨by decide, by decide, rfl⟩
  · subst h; exact ⟨by decide, by decide, rfl⟩
  · subst h; exact ⟨by decide, by decide, rfl⟩
  · subst h; exact ⟨by decide, by decide, rfl⟩
  · subst h; exact ⟨by decide, by decide, rfl⟩
theorem ask_d (ov w li th bo : Int32) (vf : Nat → Int32) : vals ov w li th bo vf = asks vf ov w li th bo := by
  unfold vals asks
  rw [show (0 : Int32) = nI 0 from rfl, show (1 : Int32) = nI 1 from rfl, show (2 : Int32) = nI 2 from rfl, show (3 : Int32) = nI 3 from rfl, show (4 : Int32) = nI 4 from rfl]
  rw [tset_in (by decide) (by decide), tset_in (by decide) (by decide), tset_in (by decide) (by decide), tset_in (by decide) (by decide), tset_in (by decide) (by decide)]
theorem ask_any (ov w li th bo : Int32) (vf a : Nat → Int32) : ∀ j : Nat, j < 5 → asks vf ov w li th bo j = asks a ov w li th bo j
  | 0, _ => rfl
  | 1, _ => rfl
  | 2, _ => rfl
  | 3, _ => rfl
  | 4, _ => rfl
  | n + 5, h => absurd h (by omega)
theorem ask_eq {ov w li th bo v : Int32} {vf a : Nat → Int32} (h1 : -6 < v) (h2 : v < 0) : (∃ j : Nat, j < 5 ∧ -1 - v = nI j) ∧ tat 5 (vals ov w li th bo vf) (-1 - v) = asks a ov w li th bo (-1 - v).toNatClampNeg := by
  have key : ∃ j : Nat, j < 5 ∧ -1 - v = nI j := by
    have a1 := Int32.lt_iff_toInt_lt.mp h1
    have a2 := Int32.lt_iff_toInt_lt.mp h2
    have e1 : (-6 : Int32).toInt = -6 := by decide
    have e2 : (0 : Int32).toInt = 0 := by decide
    rw [e1] at a1
    rw [e2] at a2
    have h : v.toInt = -1 ∨ v.toInt = -2 ∨ v.toInt = -3 ∨ v.toInt = -4 ∨ v.toInt = -5 := by omega
    rcases h with h | h | h | h | h
    · have e : v = -1 := Int32.toInt_inj.mp (h.trans (by decide))
      subst e; exact ⟨0, by decide, rfl⟩
    · have e : v = -2 := Int32.toInt_inj.mp (h.trans (by decide))
      subst e; exact ⟨1, by decide, rfl⟩
    · have e : v = -3 := Int32.toInt_inj.mp (h.trans (by decide))
      subst e; exact ⟨2, by decide, rfl⟩
    · have e : v = -4 := Int32.toInt_inj.mp (h.trans (by decide))
      subst e; exact ⟨3, by decide, rfl⟩
    · have e : v = -5 := Int32.toInt_inj.mp (h.trans (by decide))
      subst e; exact ⟨4, by decide, rfl⟩
  refine ⟨key, ?_⟩
  obtain ⟨j, hj, e⟩ := key
  rw [e, tat_in hj (by decide), nI_clamp (by omega), ask_d]
  exact ask_any ov w li th bo vf a j hj
theorem nI_m1 {h : Nat} (h1 : 0 < h) : nI h + (-1) = nI (h - 1) := by
  rw [← nI_sub1 h1, Int32.sub_eq_add_neg]
theorem gd_at {cs : List Int32} {i : Nat} (h : i < cs.length) : cs.getD i 0 = cs[i] := by
  rw [List.getD_eq_getElem?_getD, List.getElem?_eq_getElem h]
  rfl
theorem rk_vm {cs : List Int32} {cf f vf sf a sf2 : Nat → Int32} {ov w li th bo : Int32} (hl : cs.length ≤ 700) (hr : rpS cs 0 31 1) (hc : ∀ t : Nat, t < cs.length → cf t = cs.getD t 0) (hf : ∀ t : Nat, t < cs.length → f t = mC (cs.getD t 0)) : ∀ i : Nat, i ≤ cs.length → ∃ h : Nat, h ≤ 31 ∧ rpS (cs.drop i) h 31 1 ∧ (rkN (vals ov w li th bo vf) cf sf i).2 = nI h ∧ hgM f i = nI h ∧ ∀ j : Nat, j < h → (rkN (vals ov w li th bo vf) cf sf i).1 j = vmN (asks a ov w li th bo) f sf2 i j
  | 0, _ => ⟨0, by omega, hr, rfl, rfl, fun j hj => absurd hj (Nat.not_lt_zero _)⟩
  | i + 1, hi => by
    obtain ⟨h, h31, r, r2, g, eq⟩ := rk_vm (vf := vf) (sf := sf) (a := a) (sf2 := sf2) (ov := ov) (w := w) (li := li) (th := th) (bo := bo) hl hr hc hf i (by omega)
    have hv := hc i (by omega)
    have hs := hf i (by omega)
    rw [List.drop_eq_getElem_cons (show i < cs.length by omega)] at r
    rw [gd_at (show i < cs.length by omega)] at hv hs
    generalize cs[i]'(show i < cs.length by omega) = v at r hv hs
    rw [rkN, vmN, hgM, r2, g, hs, tat_in (show i < 700 by omega) (by decide), hv]
    generalize (rkN (vals ov w li th bo vf) cf sf i).1 = S at eq
    generalize vmN (asks a ov w li th bo) f sf2 i = V at eq
    rw [rpS] at r
    unfold rkS vmS
    by_cases c1 : v ≤ -10
    · rw [if_pos c1] at r
      rw [if_pos c1]
      by_cases c2 : v = -12
      · rw [if_pos c2] at r
        subst c2
        rw [if_pos rfl, if_pos (show mC (-12) ≤ -20 by decide), if_pos (show mC (-12) = -28 by decide), if_pos (show mC (-12) ≤ -20 by decide), if_pos (show mC (-12) = -28 by decide)]
        obtain ⟨r1, r3⟩ := r
        refine ⟨h, h31, r3, rfl, rfl, fun j hj => ?_⟩
        show tset 31 S (nI h - 1) (if tat 31 S (nI h - 1) = 0 then 1 else 0) j = _
        rw [nI_sub1 (by omega), tset_in (by omega) (by decide), tat_in (by omega) (by decide), nI_clamp (by omega), eq (h - 1) (by omega)]
        by_cases c : j = h - 1
        · subst c; unfold upd; rw [if_pos rfl, if_pos rfl]
        · unfold upd; rw [if_neg c, if_neg c]; exact eq j hj
      · rw [if_neg c2] at r
        obtain ⟨r1, r3, r4⟩ := r
        obtain ⟨m1, m2, -⟩ := jn_eq c1 c2 r3 0 0
        rw [if_neg c2, if_pos m1, if_neg m2, if_pos m1, if_neg m2]
        have e1 : nI h - 1 = nI (h - 1) := nI_sub1 (by omega)
        have e2 : nI (h - 1) - 1 = nI (h - 2) := by rw [nI_sub1 (by omega)]; rfl
        refine ⟨h - 1, by omega, r4, e1, nI_m1 (by omega), fun j hj => ?_⟩
        show tset 31 S (nI h - 1 - 1) (jn v (tat 31 S (nI h - 1 - 1)) (tat 31 S (nI h - 1))) j = _
        rw [nI_m1 (by omega), e1, e2, tset_in (by omega) (by decide), tat_in (by omega) (by decide), tat_in (by omega) (by decide), nI_clamp (by omega), nI_clamp (by omega), eq (h - 1) (by omega), eq (h - 2) (by omega), (jn_eq c1 c2 r3 _ _).2.2]
        by_cases c : j = h - 2
        · subst c; unfold upd; rw [if_pos rfl, if_pos rfl]
        · unfold upd; rw [if_neg c, if_neg c]; exact eq j (by omega)
    · rw [if_neg c1] at r
      obtain ⟨r1, r3, r4⟩ := r
      have m0 : ¬ v ≤ -20 := fun q => c1 (Int32.le_trans q (by decide))
      rw [if_neg c1, mC_num c1, if_neg m0, if_neg m0]
      refine ⟨h + 1, r3, r4, nI_1 h, nI_1 h, fun j hj => ?_⟩
      show tset 31 S (nI h) (if v < 0 then tat 5 (vals ov w li th bo vf) (-1 - v) else v) j = _
      rw [tset_in (by omega) (by decide), nI_clamp (by omega)]
      have ev : (if v < 0 then tat 5 (vals ov w li th bo vf) (-1 - v) else v) = (if v < 0 then asks a ov w li th bo (-1 - v).toNatClampNeg else v) := by
        by_cases c : v < 0
        · rw [if_pos c, if_pos c]; exact (ask_eq r1 c).2
        · rw [if_neg c, if_neg c]
      rw [ev]
      by_cases c : j = h
      · subst c; unfold upd; rw [if_pos rfl, if_pos rfl]
      · unfold upd; rw [if_neg c, if_neg c]; exact eq j (by omega)
theorem rk_end {cs : List Int32} {cf f vf sf a sf2 : Nat → Int32} {ov w li th bo : Int32} (hl : cs.length ≤ 700) (hr : rpS cs 0 31 1) (hc : ∀ t : Nat, t < cs.length → cf t = cs.getD t 0) (hf : ∀ t : Nat, t < cs.length → f t = mC (cs.getD t 0)) : tat 31 (rkN (vals ov w li th bo vf) cf sf cs.length).1 0 = vmN (asks a ov w li th bo) f sf2 cs.length 0 := by
  obtain ⟨h, h31, r, -, -, eq⟩ := rk_vm (vf := vf) (sf := sf) (a := a) (sf2 := sf2) (ov := ov) (w := w) (li := li) (th := th) (bo := bo) hl hr hc hf cs.length (Nat.le_refl _)
  rw [List.drop_length] at r
  have e : h = 1 := r
  subst e
  rw [show (0 : Int32) = nI 0 from rfl, tat_in (by decide) (by decide)]
  exact eq 0 (by decide)
theorem rk_m {cs : List Int32} {f : Nat → Int32} (hl : cs.length ≤ 700) (hr : rpS cs 0 31 1) (hf : ∀ t : Nat, t < cs.length → f t = mC (cs.getD t 0)) (ov w li th bo : Int32) (a sf : Nat → Int32) : vmN (asks a ov w li th bo) f sf cs.length 0 = feeM cs.length f ov w li th bo :=
  (rk_end (cf := fun t => cs.getD t 0) (vf := fun _ => 0) (sf := fun _ => 0) hl hr (fun _ _ => rfl) hf).symm.trans (rk_end (cf := fun t => cs.getD t 0) (vf := fun _ => 0) (sf := fun _ => 0) hl hr (fun _ _ => rfl) hf)
theorem rk_c {cs : List Int32} {cf : Nat → Int32} {td : Int32} (hl : cs.length ≤ 700) (hr : ¬ td = 0 → rpS cs 0 31 1) (hc : ∀ t : Nat, t < cs.length → cf t = cs.getD t 0) : ruleOK cs.length cf td := by
  intro w lim th bo vf sf
  unfold feeR
  by_cases c1 : 0 < w - lim
  · rw [if_pos c1, if_pos c1]
    by_cases c2 : td = 0
    · rw [if_pos c2, if_pos c2]
    · rw [if_neg c2, if_neg c2]
      rw [rk_end (f := fun t => mC (cs.getD t 0)) (a := fun _ => 0) (sf2 := fun _ => 0) hl (hr c2) hc (fun _ _ => rfl)]
      rw [rk_end (f := fun t => mC (cs.getD t 0)) (a := fun _ => 0) (sf2 := fun _ => 0) hl (hr c2) hc (fun _ _ => rfl)]
  · rw [if_neg c1, if_neg c1]
theorem rk_ok {cs : List Int32} {f : Nat → Int32} (hl : cs.length ≤ 700) (hr : ¬ cs.length = 0 → rpS cs 0 31 1) (hf : ∀ t : Nat, t < cs.length → f t = mC (cs.getD t 0)) : mOK f cs.length := by
  intro t ht
  obtain ⟨h, h31, r, -, g, -⟩ := rk_vm (cf := fun t => cs.getD t 0) (vf := fun _ => 0) (sf := fun _ => 0) (a := fun _ => 0) (sf2 := fun _ => 0) (ov := 0) (w := 0) (li := 0) (th := 0) (bo := 0) hl (hr (by omega)) (fun _ _ => rfl) hf t (by omega)
  have hs := hf t ht
  rw [List.drop_eq_getElem_cons ht] at r
  rw [gd_at ht] at hs
  generalize cs[t]'ht = v at r hs
  rw [rpS] at r
  rw [g, hs]
  by_cases c1 : v ≤ -10
  · rw [if_pos c1] at r
    by_cases c2 : v = -12
    · subst c2
      rw [if_pos rfl] at r
      refine ⟨fun _ _ => ?_, fun _ q => absurd (show mC (-12) = -28 by decide) q, fun q => absurd (show mC (-12) ≤ -20 by decide) q⟩
      rw [nI_sub1 (by omega)]
      exact vp_in_nI (by omega) (by decide)
    · rw [if_neg c2] at r
      obtain ⟨m1, m2, -⟩ := jn_eq c1 c2 r.2.1 0 0
      refine ⟨fun _ q => absurd q m2, fun _ _ => ?_, fun q => absurd m1 q⟩
      rw [nI_m1 (by omega), nI_sub1 (by omega)]
      exact ⟨vp_in_nI (by omega) (by decide), vp_in_nI (by omega) (by decide)⟩
  · rw [if_neg c1] at r
    have m0 : ¬ v ≤ -20 := fun q => c1 (Int32.le_trans q (by decide))
    rw [mC_num c1]
    refine ⟨fun q => absurd q m0, fun q => absurd q m0, fun _ => ⟨vp_in_nI (by omega) (by decide), fun q => ?_⟩⟩
    obtain ⟨j, hj, e⟩ := (ask_eq (ov := 0) (w := 0) (li := 0) (th := 0) (bo := 0) (vf := fun _ => 0) (a := fun _ => 0) r.1 q).1
    rw [e]
    exact vp_in_nI hj (by decide)
end
