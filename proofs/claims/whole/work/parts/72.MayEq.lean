/-! where a thing may be: the class's and the reference's answer are one -/
noncomputable section
theorem in_iff {x t : Int32} {k : Nat} (ht : t = nI k) (hk : k < 1000) : s_X13_isIn x.toInt64 0 ((t - 1).toInt64) = 0 ↔ ¬ ∃ c : Nat, c < k ∧ x = nI c := by
  constructor
  · rintro h ⟨c, hc, rfl⟩
    unfold s_X13_isIn at h
    have e1 : ¬ (nI c).toInt64 < 0 := by
      rw [Int64.lt_iff_toInt_lt, Int32.toInt_toInt64, nI_toInt (by omega)]
      exact Int.not_lt.mpr (Int.natCast_nonneg c)
    have e2 : ¬ (t - 1).toInt64 < (nI c).toInt64 := by
      obtain ⟨j, rfl⟩ : ∃ j, k = j + 1 := ⟨k - 1, by omega⟩
      rw [ht, nI_pred, Int64.lt_iff_toInt_lt, Int32.toInt_toInt64, Int32.toInt_toInt64, nI_toInt (by omega), nI_toInt (by omega)]
      omega
    rw [if_neg e1, if_neg e2] at h
    exact absurd h (by decide)
  · intro h
    refine Classical.byContradiction fun q => h ?_
    have hv := isIn_vp ht (Nat.le_refl k) (by omega) q
    obtain ⟨j, hj, e⟩ := vp_in_of hv (by omega)
    exact ⟨j, hj, e⟩
theorem sm_gen {nt : Nat} (hnt : nt ≤ 12) {tf ki he wi ht pl : Nat → Int32} {p y col B : Int32} {cnd : Nat → Prop} [∀ t, Decidable (cnd t)] {val : Nat → Int32} (hB : ∀ t : Nat, t < nt → bt B t = decide (cnd t)) (hv : ∀ t : Nat, t < nt → ∀ a : Int32, s_X13_sumAt_5s ki he wi ht pl p y t a = if cnd t then a + val t else a) (hc : ∀ t : Nat, t < nt → cnd t → tat 84 tf (nI t * 7 + col) = val t) : ∀ n : Nat, n ≤ nt → s_X13_sumAt_5 ki he wi ht pl p y 0 n = smS tf B col n
  | 0, _ => rfl
  | n + 1, h => by
    rw [s_X13_sumAt_5, smS, sm_gen hnt hB hv hc n (by omega), hv n (by omega)]
    by_cases e : cnd n
    · rw [if_pos e, if_neg (fun q => ?_), hc n (by omega) e]
      have := (bt_tst (x := B) (t := n) (by omega)).mp q
      rw [hB n (by omega), decide_eq_true e] at this
      exact absurd this (by decide)
    · rw [if_neg e, if_pos ((bt_tst (by omega)).mpr ?_)]
      rw [hB n (by omega), decide_eq_false e]
theorem ok_bt {tf : Nat → Int32} {k : Int32} {i : Nat} (hi : i < 12) : ∀ n : Nat, n ≤ 12 → bt (okS tf k n) i = decide (i < n ∧ tf (7 * i + 0) = k)
  | 0, _ => by rw [okS, b_0]; simp
  | n + 1, h => by
    have ih := ok_bt (tf := tf) (k := k) hi n (by omega)
    rw [okS, ta3 7 0 rfl 7 0 rfl rfl (by omega) (by decide)]
    by_cases e : tf (7 * n + 0) = k
    · rw [if_pos e, b_or, ih, bt_one (by omega) (by omega)]
      by_cases q : i = n
      · subst q; simp; exact e
      · rw [decide_eq_false q, Bool.or_false]
        simp only [decide_eq_decide]
        constructor <;> rintro ⟨a, b⟩ <;> exact ⟨by omega, b⟩
    · rw [if_neg e, ih]
      by_cases q : i = n
      · subst q; simp; exact e
      · simp only [decide_eq_decide]
        constructor <;> rintro ⟨a, b⟩ <;> exact ⟨by omega, b⟩
theorem eq_heat {nt : Nat} (hnt : nt ≤ 12) {tf plf ki he un wi va ht pl : Nat → Int32} {p : Int32} (hT : rlT nt tf ki he un wi va ht) (hL : rlL nt plf pl) (hz : ∀ t : Nat, t < nt → ¬ ki t = 1 → ht t = 0) : s_X13_sumAt nt ki he wi ht pl p 3 = smS tf (taS plf p nt) 6 nt := by
  refine sm_eq hnt hL (val := ht) (fun t h a => ?_) (fun t h => ?_) nt (Nat.le_refl _)
  · unfold s_X13_sumAt_5s
    simp only [show ¬ (3 : Int32) = 0 from by decide, show ¬ (3 : Int32) = 1 from by decide, show ¬ (3 : Int32) = 2 from by decide, if_true, if_false]
    by_cases k : ki t = 1
    · rw [if_pos k]
    · rw [if_neg k, hz t h k]
  · rw [ta3 7 6 rfl 7 6 rfl rfl (by omega) (by decide), (hT t h).2.2.2.2.2]
theorem eq_soft {nt : Nat} (hnt : nt ≤ 12) {tf plf ki he un wi va ht pl : Nat → Int32} {p : Int32} (hT : rlT nt tf ki he un wi va ht) (hL : rlL nt plf pl) : s_X13_sumAt nt ki he wi ht pl p 4 = smS tf ((taS plf p nt) &&& ((okS tf 1 nt) ^^^ (-1))) 3 nt := by
  refine sm_gen hnt (cnd := fun t => pl t = p ∧ ¬ ki t = 1) (val := wi) (fun t h => ?_) (fun t h a => ?_) (fun t h _ => ?_) nt (Nat.le_refl _)
  · rw [b_and, b_xor, ta_bt (by omega) nt hnt, ok_bt (by omega) nt hnt, b_m1 t (by omega), hL t h, (hT t h).1]
    by_cases h1 : plf t = p <;> by_cases h2 : tf (7 * t + 0) = 1 <;> simp [h, h1, h2]
  · unfold s_X13_sumAt_5s
    simp only [show ¬ (4 : Int32) = 0 from by decide, show ¬ (4 : Int32) = 1 from by decide, show ¬ (4 : Int32) = 2 from by decide, show ¬ (4 : Int32) = 3 from by decide, if_true, if_false]
    by_cases h1 : pl t = p <;> by_cases h2 : ki t = 1 <;> simp [h1, h2]
  · rw [ta3 7 3 rfl 7 3 rfl rfl (by omega) (by decide), (hT t h).2.2.2.1]
theorem sub10 (p : Nat) : nI (10 + p) - 10 = nI p := by rw [show (10 : Int32) = nI 10 from rfl, pk_sub (by omega), show 10 + p - 10 = p by omega]
theorem add10 (y : Int32) : 10 + (y - 10) = y := by rw [Int32.add_comm, Int32.sub_add_cancel]
theorem eq_may {nt nc np nq t : Nat} (hnt : nt ≤ 12) (hnc : nc ≤ 5) (hnp : np ≤ 4) (hnq : nq ≤ 6) {to hv tf cf pf qf plf ki he un wi va ht pl ow li ho co bo own po be pt pr : Nat → Int32} {y : Int32} (hT : rlT nt tf ki he un wi va ht) (hC : rlC nc cf ow li ho co bo) (hP : rlP np pf own po be) (hQ : rlQ nq qf pt pr) (hL : rlL nt plf pl) (hz : ∀ t : Nat, t < nt → ¬ ki t = 1 → ht t = 0)
    (k0 : to 0 = nI np) (k1 : to 1 = nI nc) (h5 : hv 5 = nI np) (h6 : hv 6 = nI nc) (ht9 : t < nt) : s_X13_mayBe nt nq to po be ho bo ki he wi ht pl pt pr (nI t) y = mcS nt nq hv pf cf tf qf plf (nI t) y := by
  have ec : ∀ w : Int32, s_X13_isCase to w = 0 ↔ ¬ ∃ c : Nat, c < nc ∧ w = nI c := fun w => in_iff k1 (by omega)
  have ep : ∀ w : Int32, s_X13_isPerson to w = 0 ↔ ¬ ∃ c : Nat, c < np ∧ w = nI c := fun w => in_iff k0 (by omega)
  have et : (nI t).toNatClampNeg = t := nI_clamp (by omega)
  obtain ⟨t0, t1, t2, t3, t4, t6⟩ := hT t ht9
  have a0 : tat 84 tf (nI t * 7 + 0) = ki t := by rw [ta3 7 0 rfl 7 0 rfl rfl (by omega) (by decide), t0]
  have a1 : tat 84 tf (nI t * 7 + 1) = he t := by rw [ta3 7 1 rfl 7 1 rfl rfl (by omega) (by decide), t1]
  have a3 : tat 84 tf (nI t * 7 + 3) = wi t := by rw [ta3 7 3 rfl 7 3 rfl rfl (by omega) (by decide), t3]
  have a6 : tat 84 tf (nI t * 7 + 6) = ht t := by rw [ta3 7 6 rfl 7 6 rfl rfl (by omega) (by decide), t6]
  have al : tat 12 plf (nI t) = pl t := by rw [tat_in (by omega) (by decide), hL t ht9]
  have epr : s_X13_priceOf nq he pt pr (nI t) = prS qf (he t) nq 0 := by rw [eq_price hnt hnq hT hQ ht9, a1]
  unfold s_X13_mayBe mcS miS moS
  simp only [et, a0, a1, a3, a6, al, epr, h5, h6]
  by_cases g1 : pl t = y
  · simp only [if_pos g1]
  simp only [if_neg g1]
  by_cases g2 : pl t < 20
  · simp only [if_pos g2]
    by_cases hc : ∃ c : Nat, c < nc ∧ y = nI c
    · have hcn : ¬ s_X13_isCase to y = 0 := fun q => (ec y).mp q hc
      obtain ⟨c, hc1, rfl⟩ := hc
      have n20 : ¬ nI c = 20 := fun q => absurd ((nI_eq (b := 20) (by omega) (by decide)).mp q) (by omega)
      have n21 : ¬ nI c = 21 := fun q => absurd ((nI_eq (b := 21) (by omega) (by decide)).mp q) (by omega)
      have n22 : ¬ nI c = 22 := fun q => absurd ((nI_eq (b := 22) (by omega) (by decide)).mp q) (by omega)
      have neg : nI c - 10 < 0 := by rw [show (10 : Int32) = nI 10 from rfl]; exact pk_sneg (by decide) (by omega)
      obtain ⟨c0, c1, c2, c3, c4⟩ := hC c hc1
      have ecl : (nI c).toNatClampNeg = c := nI_clamp (by omega)
      simp only [if_neg hcn, if_neg n20, if_neg n21, if_neg n22, if_pos neg, if_neg (nI_pos (show c < 2 ^ 31 by omega)), if_pos (nI_lt hc1 (by omega)), ecl, if_true]
      rw [ta3 5 4 rfl 5 4 rfl rfl (by omega) (by decide), ta3 5 2 rfl 5 2 rfl rfl (by omega) (by decide), ← c4, ← c2, eq_sizes hnt hT hL]
      unfold siS
      by_cases d1 : ho c < smS tf (taS plf (nI c) nt) 3 nt + wi t <;> by_cases d2 : ki t = 2 <;> by_cases d3 : bo c = 0 <;> simp [d1, d2, d3]
    · have hcn : s_X13_isCase to y = 0 := (ec y).mpr hc
      have hmi : (if y < 0 then (0 : Int32) else if y < nI nc then if ki t = 2 then if tat 25 cf (y * 5 + 4) = 0 then if tat 25 cf (y * 5 + 2) < smS tf (taS plf y nt) 3 nt + wi t then 0 else 1 else 0 else if tat 25 cf (y * 5 + 2) < smS tf (taS plf y nt) 3 nt + wi t then 0 else 1 else 0) = 0 := by
        by_cases s1 : y < 0
        · rw [if_pos s1]
        · rw [if_neg s1, if_neg (fun s2 => hc ?_)]
          obtain ⟨j, hj, e⟩ := nI_of s1
          rw [e] at s2
          exact ⟨j, (nI_ltI hj (by omega)).mp s2, e⟩
      simp only [if_pos hcn, hmi, if_true]
      by_cases hp : ∃ p : Nat, p < np ∧ y - 10 = nI p
      · have hpn : ¬ s_X13_isPerson to (y - 10) = 0 := fun q => (ep _).mp q hp
        obtain ⟨p, hp1, hp2⟩ := hp
        have ey : y = nI (10 + p) := by rw [← add10 y, hp2, show (10 : Int32) = nI 10 from rfl, nI_add]
        have n20 : ¬ y = 20 := fun q => absurd ((nI_eq (b := 20) (by omega) (by decide)).mp (ey.symm.trans q)) (by omega)
        have n21 : ¬ y = 21 := fun q => absurd ((nI_eq (b := 21) (by omega) (by decide)).mp (ey.symm.trans q)) (by omega)
        have n22 : ¬ y = 22 := fun q => absurd ((nI_eq (b := 22) (by omega) (by decide)).mp (ey.symm.trans q)) (by omega)
        obtain ⟨p0, p1, p2⟩ := hP p hp1
        have ecl : (nI p).toNatClampNeg = p := nI_clamp (by omega)
        simp only [if_neg hpn, if_neg n20, if_neg n21, if_neg n22, add10]
        rw [eq_heat hnt hT hL hz, eq_soft hnt hT hL, hp2, ecl, if_neg (nI_pos (show p < 2 ^ 31 by omega)), if_pos (nI_lt hp1 (by omega)), ta3 3 2 rfl 3 2 rfl rfl (by omega) (by decide), ta3 3 1 rfl 3 1 rfl rfl (by omega) (by decide), ← p2, ← p1]
        by_cases d2 : ki t = 1 <;> by_cases d1 : be p < smS tf (taS plf y nt) 6 nt + ht t <;> by_cases d3 : 2 < wi t <;> by_cases d4 : po p < smS tf ((taS plf y nt) &&& ((okS tf 1 nt) ^^^ (-1))) 3 nt + wi t <;> simp [d1, d2, d3, d4]
      · have hpn : s_X13_isPerson to (y - 10) = 0 := (ep _).mpr hp
        have hmo : ∀ A : Int32, (if y - 10 < 0 then (0 : Int32) else if y - 10 < nI np then A else 0) = 0 := by
          intro A
          by_cases s1 : y - 10 < 0
          · rw [if_pos s1]
          · rw [if_neg s1, if_neg (fun s2 => hp ?_)]
            obtain ⟨j, hj, e⟩ := nI_of s1
            rw [e] at s2
            exact ⟨j, (nI_ltI hj (by omega)).mp s2, e⟩
        simp only [if_pos hpn, hmo, if_true]
        by_cases d20 : y = 20
        · simp only [if_pos d20]
        · by_cases d21 : y = 21
          · have d22 : ¬ y = 22 := by rw [d21]; decide
            simp only [if_neg d20, if_pos d21, if_neg d22]
          · simp only [if_neg d20, if_neg d21]
  · simp only [if_neg g2]
end
