/-! a shift, an image and what is restored: one in both -/
noncomputable section
theorem oi_eq {to hv : Nat → Int32} {op y : Int32} {nc : Nat} (k1 : to 1 = nI nc) (h6 : hv 6 = nI nc) (hn : nc ≤ 5) : (s_X13_isCase to y = 0 → oiS_0_2 op hv y = op) ∧ (¬ s_X13_isCase to y = 0 → oiS_0_2 op hv y = op ||| (1 <<< (y &&& 31))) := by
  unfold oiS_0_2
  constructor
  · intro h
    rcases rng (x := y) h6 (by omega) with ⟨c, hc, e⟩ | ⟨h1, -⟩
    · exact absurd h (cs_in k1 (by omega) hc e)
    · rcases h1 with h1 | h1
      · rw [if_pos h1]
      · by_cases z : y < 0
        · rw [if_pos z]
        · rw [if_neg z, if_pos h1]
  · intro h
    rcases rng (x := y) h6 (by omega) with ⟨c, hc, e⟩ | ⟨-, h2⟩
    · obtain ⟨g0, g1⟩ := rng_in h6 (by omega) hc e
      rw [if_neg g0, if_neg (fun q => absurd (Int32.lt_of_lt_of_le g1 q) Int32.lt_irrefl)]
    · exact absurd (cs_out k1 (by omega) h2) h
theorem eq_put {to hv mv pl : Nat → Int32} {y : Int32} {nc t : Nat} (k1 : to 1 = nI nc) (h6 : hv 6 = nI nc) (hn : nc ≤ 5) (ht : t < 12) : s_X13_put_0_1 mv to pl (nI t) y 36 = oiS_0_2 (oiS_0_2 (mv 36) hv (pl t)) hv y ∧ ∀ j : Nat, j ≠ 36 → s_X13_put_0_1 mv to pl (nI t) y j = mv j := by
  unfold s_X13_put_0_1
  rw [nI_clamp (by omega)]
  obtain ⟨a1, a2⟩ := oi_eq (op := mv 36) (y := pl t) k1 h6 hn
  obtain ⟨b1, b2⟩ := oi_eq (op := oiS_0_2 (mv 36) hv (pl t)) (y := y) k1 h6 hn
  by_cases c1 : s_X13_isCase to (pl t) = 0
  · rw [if_pos c1]
    rw [a1 c1] at b1 b2 ⊢
    by_cases c2 : s_X13_isCase to y = 0
    · rw [if_pos c2, b1 c2]; exact ⟨rfl, fun _ _ => rfl⟩
    · rw [if_neg c2, b2 c2]; exact ⟨pk_us, fun j hj => pk_un hj⟩
  · rw [if_neg c1]
    rw [a2 c1] at b1 b2 ⊢
    by_cases c2 : s_X13_isCase to y = 0
    · rw [if_pos c2, b1 c2]; exact ⟨pk_us, fun j hj => pk_un hj⟩
    · rw [if_neg c2, b2 c2]; exact ⟨pk_us, fun j hj => by rw [pk_un hj, pk_un hj]⟩
theorem mc_y {nt nq nc np : Nat} {hv pf cf tf qf plf : Nat → Int32} {x y : Int32} (h5 : hv 5 = nI np) (h6 : hv 6 = nI nc) (hnc : nc ≤ 5) (hnp : np ≤ 4) (h : ¬ mcS nt nq hv pf cf tf qf plf x y = 0) : ∃ k : Nat, k ≤ 22 ∧ y = nI k := by
  unfold mcS at h
  by_cases c1 : tat 12 plf x = y
  · rw [if_pos c1] at h; exact absurd rfl h
  rw [if_neg c1] at h
  by_cases c2 : tat 12 plf x < 20
  · rw [if_pos c2] at h
    by_cases y20 : y = 20
    · exact ⟨20, by decide, y20⟩
    rw [if_neg y20] at h
    by_cases y21 : y = 21
    · exact ⟨21, by decide, y21⟩
    rw [if_neg y21] at h
    by_cases y22 : y = 22
    · exact ⟨22, by decide, y22⟩
    rw [if_neg y22] at h
    by_cases c3 : miS nt hv cf tf plf x y = 0
    · rw [if_pos c3] at h
      by_cases c4 : moS nt hv pf tf plf x (y - 10) = 0
      · rw [if_pos c4] at h; exact absurd rfl h
      · unfold moS at c4
        by_cases q0 : y - 10 < 0
        · rw [if_pos q0] at c4; exact absurd rfl c4
        rw [if_neg q0] at c4
        by_cases q1 : y - 10 < hv 5
        · obtain ⟨j, hj, e⟩ := nI_of q0
          rw [e, h5] at q1
          have := (nI_ltI hj (by omega)).mp q1
          refine ⟨j + 10, by omega, ?_⟩
          rw [← nI_add, ← e]
          exact (Int32.sub_add_cancel y 10).symm
        · rw [if_neg q1] at c4; exact absurd rfl c4
    · unfold miS at c3
      by_cases q0 : y < 0
      · rw [if_pos q0] at c3; exact absurd rfl c3
      rw [if_neg q0] at c3
      by_cases q1 : y < hv 6
      · obtain ⟨j, hj, e⟩ := nI_of q0
        rw [e, h6] at q1
        have := (nI_ltI hj (by omega)).mp q1
        exact ⟨j, by omega, e⟩
      · rw [if_neg q1] at c3; exact absurd rfl c3
  · rw [if_neg c2] at h; exact absurd rfl h
theorem eq_shift {nt nc np nq na t : Nat} (hnt : nt ≤ 12) (hnc : nc ≤ 5) (hnp : np ≤ 4) (hnq : nq ≤ 6) {to hv mv st tf2 tf cf pf qf plf ki he un wi va ht pl ow li ho co bo own po be pt pr af tn pn on : Nat → Int32} {y : Int32} (hT : rlT nt tf ki he un wi va ht) (hC : rlC nc cf ow li ho co bo) (hP : rlP np pf own po be) (hQ : rlQ nq qf pt pr) (hL : rlL nt plf pl) (hz : ∀ t : Nat, t < nt → ¬ ki t = 1 → ht t = 0)
    (k0 : to 0 = nI np) (k1 : to 1 = nI nc) (k2 : to 2 = nI nt) (h5 : hv 5 = nI np) (h6 : hv 6 = nI nc) (ht9 : t < nt) (hna : na ≤ 40) (ka : mv 37 = nI na) (hA : rlA nt na af tn pn on) (hO : okA tn) (h3 : rl3 st tf2) (hK : okL nt pl) :
    s_X13_shift nt nq to po be ho bo ki he wi ht pl pt pr (nI t) y = s_X12_shift nt nq hv pf cf tf qf plf (nI t) y
    ∧ s_X13_shift_5_1 nt nq mv to po be ho bo ki he wi ht pl pt pr (nI t) y 2 = 0
    ∧ s_X13_shift_5_1 nt nq mv to po be ho bo ki he wi ht pl pt pr (nI t) y 36 = s_X12_shift_0_2 nt nq (mv 36) hv pf cf tf qf plf (nI t) y
    ∧ s_X13_shift_5_1 nt nq mv to po be ho bo ki he wi ht pl pt pr (nI t) y 37 = s_X12_shift_2_1 nt nq (nI na) hv pf cf tf qf plf (nI t) y
    ∧ (∀ j : Nat, j ≠ 2 → j ≠ 36 → j ≠ 37 → s_X13_shift_5_1 nt nq mv to po be ho bo ki he wi ht pl pt pr (nI t) y j = mv j)
    ∧ rlL nt (s_X12_shift_1_f nt nq hv pf cf tf qf plf (nI t) y) (s_X13_shift_0_f nt nq to po be ho bo ki he wi ht pl pt pr (nI t) y)
    ∧ rl3 (s_X13_shift_1_f nt nq to po be ho bo ki he wi ht pl pt pr st (nI t) y) (s_X12_shift_4_f nt nq hv pf cf tf qf plf tf2 (nI t) y)
    ∧ (∃ na2 : Nat, na2 ≤ 40 ∧ s_X12_shift_2_1 nt nq (nI na) hv pf cf tf qf plf (nI t) y = nI na2 ∧ rlA nt na2 (s_X12_shift_3_f nt nq (nI na) (mv 36) hv pf cf tf qf plf af (nI t) y) (s_X13_shift_2_f nt nq mv to po be ho bo ki he wi ht pl pt pr tn pn on (nI t) y) (s_X13_shift_3_f nt nq mv to po be ho bo ki he wi ht pl pt pr tn pn on (nI t) y) (s_X13_shift_4_f nt nq mv to po be ho bo ki he wi ht pl pt pr tn pn on (nI t) y))
    ∧ okA (s_X13_shift_2_f nt nq mv to po be ho bo ki he wi ht pl pt pr tn pn on (nI t) y)
    ∧ okL nt (s_X13_shift_0_f nt nq to po be ho bo ki he wi ht pl pt pr (nI t) y) := by
  have hi := th_in k2 (by omega) ht9 rfl
  have em := eq_may hnt hnc hnp hnq (y := y) (co := co) (li := li) (ow := ow) (own := own) (un := un) (va := va) hT hC hP hQ hL hz k0 k1 h5 h6 ht9
  have ep : tat 12 plf (nI t) = pl t := (tat_in (by omega) (by decide)).trans (hL t ht9).symm
  have cl := nI_clamp (n := t) (by omega)
  unfold s_X13_shift s_X12_shift s_X13_shift_5_1 s_X12_shift_0_2 s_X12_shift_2_1 s_X12_shift_1_f s_X13_shift_0_f s_X13_shift_1_f s_X12_shift_4_f s_X12_shift_3_f s_X13_shift_2_f s_X13_shift_3_f s_X13_shift_4_f s_X13_refuse
  simp only [if_neg hi]
  rw [em]
  by_cases c : mcS nt nq hv pf cf tf qf plf (nI t) y = 0
  · simp only [if_pos c]
    exact ⟨trivial, pk_us, pk_un (by decide), (pk_un (by decide)).trans ka, fun j h1 _ _ => pk_un h1, hL, rl3_up h3 (k := 1) (K := 1) rfl (by decide), ⟨na, hna, rfl, hA⟩, hO, hK⟩
  · simp only [if_neg c]
    obtain ⟨q1, ⟨na2, q2, q3, q4⟩, q5, q6⟩ := eq_keep (mv := upd mv 2 0) (p := tat 12 plf (nI t)) hna ((pk_un (by decide)).trans ka) hA hO ht9 hnt ep.symm (by rw [ep]; exact hK t ht9)
    obtain ⟨p1, p2⟩ := eq_put (mv := s_X13_keep_0_1 (upd mv 2 0)) (pl := pl) (y := y) (hv := hv) k1 h6 hnc (show t < 12 by omega)
    rw [show upd mv 2 0 36 = mv 36 from pk_un (by decide)] at q4
    refine ⟨by rw [ep, cl], ?_, ?_, ?_, fun j h1 h2 h3' => ?_, fun i hi' => ?_, h3, ⟨na2, q2, q3, q4⟩, q5, fun i hi' => ?_⟩
    · rw [p2 2 (by decide), q6 2 (by decide), pk_us]
    · rw [p1, q6 36 (by decide), pk_un (by decide), ep]
    · rw [p2 37 (by decide), q1]
    · rw [p2 j h2, q6 j h3', pk_un h1]
    · rw [tset_in (show t < 12 by omega) (by decide), cl]
      by_cases z : i = t
      · subst z; rw [pk_us, pk_us]
      · rw [pk_un z, pk_un z]; exact hL i hi'
    · rw [cl]
      by_cases z : i = t
      · subst z; rw [pk_us]; exact mc_y h5 h6 hnc hnp c
      · rw [pk_un z]; exact hK i hi'
theorem no_shift {nt nq : Nat} {to mv po be ho bo ki he wi ht pl pt pr : Nat → Int32} {x y : Int32} (k2 : to 2 = nI nt) (hn : nt ≤ 12) (h : ¬ ∃ c : Nat, c < nt ∧ x = nI c) {st tn pn on : Nat → Int32} :
    s_X13_shift_5_1 nt nq mv to po be ho bo ki he wi ht pl pt pr x y = upd (upd mv 2 0) 2 1 ∧ s_X13_shift_0_f nt nq to po be ho bo ki he wi ht pl pt pr x y = pl ∧ s_X13_shift_1_f nt nq to po be ho bo ki he wi ht pl pt pr st x y = st ∧ s_X13_shift_2_f nt nq mv to po be ho bo ki he wi ht pl pt pr tn pn on x y = tn ∧ s_X13_shift_3_f nt nq mv to po be ho bo ki he wi ht pl pt pr tn pn on x y = pn ∧ s_X13_shift_4_f nt nq mv to po be ho bo ki he wi ht pl pt pr tn pn on x y = on := by
  have hi := th_out k2 (by omega) h
  unfold s_X13_shift_5_1 s_X13_shift_0_f s_X13_shift_1_f s_X13_shift_2_f s_X13_shift_3_f s_X13_shift_4_f
  simp only [if_pos hi, and_self]
/-- rows that are copied -/
theorem cpPl {nt : Nat} {plf pl : Nat → Int32} (hnt : nt ≤ 12) (h : rlL nt plf pl) : rlL nt (fun q => tat 12 plf (nI q)) pl := fun i hi => by
  show pl i = tat 12 plf (nI i)
  rw [tat_in (by omega) (by decide)]; exact h i hi
theorem cpA {nt na : Nat} {af tn pn on : Nat → Int32} (hna : na ≤ 40) (h : rlA nt na af tn pn on) : rlA nt na (fun q => tat 120 af (nI q)) tn pn on := fun i hi => by
  show tn i = tat 120 af (nI (3 * i + 0)) ∧ pn i = tat 120 af (nI (3 * i + 1)) ∧ on i = tat 120 af (nI (3 * i + 2)) ∧ _
  rw [tat_in (by omega) (by decide), tat_in (by omega) (by decide), tat_in (by omega) (by decide)]
  exact h i hi
theorem cpSn {nk : Nat} {sf sc sw : Nat → Int32} (hk : nk ≤ 6) (h : rlS2 nk sf sc sw) : rlS2 nk (fun q => tat 12 sf (nI q)) sc sw := fun i hi => by
  show sc i = tat 12 sf (nI (2 * i + 0)) ∧ sw i = tat 12 sf (nI (2 * i + 1))
  rw [tat_in (by omega) (by decide), tat_in (by omega) (by decide)]
  exact h i hi
theorem cp3 {st tf2 : Nat → Int32} (h : rl3 st tf2) : rl3 st (fun q => tat 3 tf2 (nI q)) := fun i hi => by
  show st i = tat 3 tf2 (nI i)
  rw [tat_in hi (by decide)]; exact h i hi
end
