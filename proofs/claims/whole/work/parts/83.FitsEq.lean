/-! which shift fits, which is best: one in both -/
noncomputable section
theorem as_seen {nt nk : Nat} (hnt : nt ≤ 12) {tf plf ki he un wi va ht pl sf sc sw : Nat → Int32} (hT : rlT nt tf ki he un wi va ht) (hL : rlL nt plf pl) (hS : rlS2 nk sf sc sw) (hk : nk ≤ 6) : s_X13_isAsSeen nt ki he wi ht pl sc sw nk = s_X1_agreesWith nk nt sf tf plf := by
  have key : ∀ r i : Nat, i + r = nk → s_X13_isAsSeen_2 nt ki he wi ht pl sc sw r i = s_X1_agreesWith_2 nt sf tf plf r i := by
    intro r
    induction r with
    | zero => intro i _; rfl
    | succ r ih =>
      intro i hi
      obtain ⟨h1, h2⟩ := hS i (by omega)
      rw [s_X13_isAsSeen_2, s_X1_agreesWith_2, ih (i + 1) (by omega), eq_weight hnt hT hL, ta3 2 0 rfl 2 0 rfl rfl (by omega) (by decide), ta3 2 1 rfl 2 1 rfl rfl (by omega) (by decide), h1, h2]
  exact key nk 0 (Nat.zero_add _)
/-- a place that is tried -/
theorem tr_L {nt t : Nat} {plf pl : Nat → Int32} {y : Int32} (hnt : nt ≤ 12) (ht : t < nt) (hL : rlL nt plf pl) : rlL nt (tset 12 (fun q => tat 12 plf (nI q)) (nI t) y) (upd pl t y) := fun i hi => by
  rw [tset_in (show t < 12 by omega) (by decide)]
  by_cases z : i = t
  · subst z; rw [pk_us, pk_us]
  · rw [pk_un z, pk_un z]; exact cpPl hnt hL i hi
theorem eq_fits {nt nc np nq nk : Nat} (hnt : nt ≤ 12) (hnc : nc ≤ 5) (hnp : np ≤ 4) (hnq : nq ≤ 6) (hk : nk ≤ 6) {to hv tf cf pf qf plf ki he un wi va ht pl ow li ho co bo own po be pt pr sf sc sw : Nat → Int32} (hT : rlT nt tf ki he un wi va ht) (hC : rlC nc cf ow li ho co bo) (hP : rlP np pf own po be) (hQ : rlQ nq qf pt pr) (hL : rlL nt plf pl) (hz : ∀ t : Nat, t < nt → ¬ ki t = 1 → ht t = 0)
    (k0 : to 0 = nI np) (k1 : to 1 = nI nc) (h5 : hv 5 = nI np) (h6 : hv 6 = nI nc) (hS : rlS2 nk sf sc sw) (hK : okL nt pl) :
    s_X10_findFits_12 nk nt nc nq hv pf cf tf qf sf plf 0 (-1) nt = ftS (fun t => s_X13_isCase to (pl t)) (fun t c => s_X13_mayBe nt nq to po be ho bo ki he wi ht pl pt pr (nI t) (nI c)) (fun t c => s_X13_isAsSeen nt ki he wi ht (upd pl t (nI c)) sc sw nk) nc nt := by
  have inn : ∀ t : Nat, t < nt → ∀ a : Int32 × Int32, ∀ n : Nat, n ≤ nc → (a.1 = 0 ↔ a.2 = -1) → (∃ k : Nat, k ≤ 100 * t ∧ a.1 = nI k) →
      s_X10_findFits_48 nk nt nq hv pf cf tf qf sf plf t a.1 a.2 n = ftI (fun t c => s_X13_mayBe nt nq to po be ho bo ki he wi ht pl pt pr (nI t) (nI c)) (fun t c => s_X13_isAsSeen nt ki he wi ht (upd pl t (nI c)) sc sw nk) t a n
      ∧ ((ftI (fun t c => s_X13_mayBe nt nq to po be ho bo ki he wi ht pl pt pr (nI t) (nI c)) (fun t c => s_X13_isAsSeen nt ki he wi ht (upd pl t (nI c)) sc sw nk) t a n).1 = 0 ↔ (ftI (fun t c => s_X13_mayBe nt nq to po be ho bo ki he wi ht pl pt pr (nI t) (nI c)) (fun t c => s_X13_isAsSeen nt ki he wi ht (upd pl t (nI c)) sc sw nk) t a n).2 = -1)
      ∧ ∃ k : Nat, k ≤ 100 * t + n ∧ (ftI (fun t c => s_X13_mayBe nt nq to po be ho bo ki he wi ht pl pt pr (nI t) (nI c)) (fun t c => s_X13_isAsSeen nt ki he wi ht (upd pl t (nI c)) sc sw nk) t a n).1 = nI k := by
    intro t ht9 a n
    induction n with
    | zero => intro _ ha hb; exact ⟨rfl, ha, hb⟩
    | succ n ih =>
      intro hn ha hb
      obtain ⟨i1, i2, k, i3, i4⟩ := ih (by omega) ha hb
      rw [s_X10_findFits_48, ftI, i1]
      generalize ftI (fun t c => s_X13_mayBe nt nq to po be ho bo ki he wi ht pl pt pr (nI t) (nI c)) (fun t c => s_X13_isAsSeen nt ki he wi ht (upd pl t (nI c)) sc sw nk) t a n = b at i2 i4
      have em := eq_may hnt hnc hnp hnq (y := nI n) (co := co) (li := li) (ow := ow) (own := own) (un := un) (va := va) hT hC hP hQ hL hz k0 k1 h5 h6 ht9
      have es := as_seen hnt hT (tr_L (y := nI n) hnt ht9 hL) hS hk
      unfold s_X10_findFits_48s s_X10_tries
      rw [em, es]
      by_cases c1 : mcS nt nq hv pf cf tf qf plf (nI t) (nI n) = 0
      · simp only [if_pos c1, if_true]
        exact ⟨trivial, i2, k, by omega, i4⟩
      · simp only [if_neg c1, show ¬ (1 : Int32) = 0 from by decide, if_false]
        by_cases c2 : s_X1_agreesWith nk nt sf tf (tset 12 (fun q => tat 12 plf (nI q)) (nI t) (nI n)) = 0
        · simp only [if_pos c2]
          exact ⟨trivial, i2, k, by omega, i4⟩
        · simp only [if_neg c2]
          have p1 : ¬ b.1 + 1 = 0 := by rw [i4, nI_1]; exact nI_ne0 (by omega) (by omega)
          have p2 : ¬ 100 * nI t + nI n = -1 := by
            rw [show (100 : Int32) = nI 100 from rfl, pk_mul, nI_add]
            exact nI_n1 (by omega)
          by_cases c3 : b.1 = 0
          · simp only [if_pos c3, if_pos (i2.mp c3)]
            exact ⟨trivial, ⟨fun q => absurd q p1, fun q => absurd q p2⟩, k + 1, by omega, by rw [i4, nI_1]⟩
          · simp only [if_neg c3, if_neg (fun q => c3 (i2.mpr q))]
            exact ⟨trivial, ⟨fun q => absurd q p1, fun q => absurd (i2.mpr q) c3⟩, k + 1, by omega, by rw [i4, nI_1]⟩
  have out : ∀ n : Nat, n ≤ nt → s_X10_findFits_12 nk nt nc nq hv pf cf tf qf sf plf 0 (-1) n = ftS (fun t => s_X13_isCase to (pl t)) (fun t c => s_X13_mayBe nt nq to po be ho bo ki he wi ht pl pt pr (nI t) (nI c)) (fun t c => s_X13_isAsSeen nt ki he wi ht (upd pl t (nI c)) sc sw nk) nc n
      ∧ ((ftS (fun t => s_X13_isCase to (pl t)) (fun t c => s_X13_mayBe nt nq to po be ho bo ki he wi ht pl pt pr (nI t) (nI c)) (fun t c => s_X13_isAsSeen nt ki he wi ht (upd pl t (nI c)) sc sw nk) nc n).1 = 0 ↔ (ftS (fun t => s_X13_isCase to (pl t)) (fun t c => s_X13_mayBe nt nq to po be ho bo ki he wi ht pl pt pr (nI t) (nI c)) (fun t c => s_X13_isAsSeen nt ki he wi ht (upd pl t (nI c)) sc sw nk) nc n).2 = -1)
      ∧ ∃ k : Nat, k ≤ 100 * n ∧ (ftS (fun t => s_X13_isCase to (pl t)) (fun t c => s_X13_mayBe nt nq to po be ho bo ki he wi ht pl pt pr (nI t) (nI c)) (fun t c => s_X13_isAsSeen nt ki he wi ht (upd pl t (nI c)) sc sw nk) nc n).1 = nI k := by
    intro n
    induction n with
    | zero => intro _; exact ⟨rfl, ⟨fun _ => rfl, fun _ => rfl⟩, 0, by omega, rfl⟩
    | succ n ih =>
      intro hn
      obtain ⟨i1, i2, k, i3, i4⟩ := ih (by omega)
      rw [s_X10_findFits_12, ftS, i1]
      generalize ftS (fun t => s_X13_isCase to (pl t)) (fun t c => s_X13_mayBe nt nq to po be ho bo ki he wi ht pl pt pr (nI t) (nI c)) (fun t c => s_X13_isAsSeen nt ki he wi ht (upd pl t (nI c)) sc sw nk) nc n = b at i2 i4
      unfold s_X10_findFits_12s
      have epl : tat 12 plf (nI n) = pl n := (tat_in (by omega) (by decide)).trans (hL n (by omega)).symm
      obtain ⟨kp, hkp, ekp⟩ := hK n (by omega)
      rw [epl, h6]
      by_cases c1 : kp < nc
      · have g1 : ¬ nI nc ≤ pl n := by rw [ekp]; exact nI_ge c1 (by omega)
        have g2 : ¬ s_X13_isCase to (pl n) = 0 := cs_in k1 (by omega) c1 ekp
        simp only [if_neg g1, if_neg g2]
        obtain ⟨j1, j2, k', j3, j4⟩ := inn n (by omega) b nc (Nat.le_refl _) i2 ⟨k, i3, i4⟩
        rw [j1]
        exact ⟨rfl, j2, k', by omega, j4⟩
      · have g1 : nI nc ≤ pl n := by rw [ekp]; exact nI_le (by omega) (by omega)
        have g2 : s_X13_isCase to (pl n) = 0 := cs_out k1 (by omega) (fun ⟨c, hc, e⟩ => c1 (by
          rw [ekp] at e
          have := (nI_eq (by omega) (by omega)).mp e
          omega))
        simp only [if_pos g1, if_pos g2, ite_self]
        exact ⟨trivial, i2, k, by omega, i4⟩
  exact (out nt (Nat.le_refl _)).1
end
