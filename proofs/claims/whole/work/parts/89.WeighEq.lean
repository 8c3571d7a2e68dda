/-! what to weigh: one in both -/
noncomputable section
theorem te_kb {W U li wt un : Int32} {lo : Nat} : ∀ n : Nat, teS (W - U) (W + U) li wt un lo n = kbS li (W - wt) (U - un) lo n
  | 0 => rfl
  | n + 1 => by
    have ih := te_kb (W := W) (U := U) (li := li) (wt := wt) (un := un) (lo := lo) n
    have eA : W - U - (wt - un) + nI (lo + n) = nI (lo + n) + (W - wt) - (U - un) := by
      simp only [Int32.sub_eq_add_neg, Int32.neg_add, Int32.neg_neg]
      ac_rfl
    have eB : W + U - (wt + un) + nI (lo + n) = nI (lo + n) + (W - wt) + (U - un) := by
      simp only [Int32.sub_eq_add_neg, Int32.neg_add, Int32.neg_neg]
      ac_rfl
    rw [teS, kbS, ih, eA, eB]
    by_cases c1 : li < nI (lo + n) + (W - wt) - (U - un)
    · rw [if_pos c1, if_neg (Int32.not_le.mpr c1), ite_self]
    · rw [if_neg c1, if_pos (Int32.not_lt.mp c1), Int32.add_zero]
      by_cases c2 : li < nI (lo + n) + (W - wt) + (U - un)
      · rw [if_pos c2, if_neg (Int32.not_le.mpr c2)]
      · rw [if_neg c2, if_pos (Int32.not_lt.mp c2)]
def rWg (K : Nat → Int32) (uN : Nat → Nat) (nt : Nat) (Z : Int32 × Int64 × Int64) (wb : Int32) : Prop := Z.1 = wb ∧ ((wb = -1 ∧ Z.2.1 = 0 ∧ Z.2.2 = 1) ∨ ∃ b a : Nat, b < nt ∧ a ≤ 19 ∧ wb = nI b ∧ K b = nI a ∧ Z.2.1 = lN a ∧ Z.2.2 = lN (2 * uN b + 1))
theorem eq_weigh {nt nc c : Nat} (hnt : nt ≤ 12) (hnc : nc ≤ 5) {tf cf plf ki he un wi va ht pl ow li ho co bo : Nat → Int32} {hN uN : Nat → Nat} {y : Int32} (hT : rlT nt tf ki he un wi va ht) (hC : rlC nc cf ow li ho co bo) (hL : rlL nt plf pl) (hc : c < nc) (hu : ∀ t : Nat, t < nt → un t = nI (uN t) ∧ uN t ≤ 9) (hw : ∀ t : Nat, t < nt → he t = nI (hN t) ∧ hN t ≤ 60) (hy : y = 0 ∨ y = 1 ∨ y = 2) :
    wgS (kbT (li c) (s_X13_sumAt nt ki he wi ht pl (nI c) 1) (s_X13_unsureAt nt un pl (nI c)) hN uN) un (if s_X13_sureOf nt li ki he un wi ht pl (nI c) = 2 then wbS (kbT (li c) (s_X13_sumAt nt ki he wi ht pl (nI c) 1) (s_X13_unsureAt nt un pl (nI c)) hN uN) un pl (nI c) nt else -1) y = s_X12_weigh nt cf tf plf (nI c) y := by
  have e1 : s_X13_sumAt nt ki he wi ht pl (nI c) 1 = smS tf (taS plf (nI c) nt) 1 nt := eq_weight hnt hT hL
  have e2 : s_X13_unsureAt nt un pl (nI c) = smS tf (taS plf (nI c) nt) 2 nt := eq_unsure hnt hT hL
  have e3 : tat 25 cf (nI c * 5 + 1) = li c := by rw [ta3 5 1 rfl 5 1 rfl rfl (by omega) (by decide), (hC c hc).2.1]
  have cl : (nI c).toNatClampNeg = c := nI_clamp (by omega)
  unfold s_X13_sureOf s_X12_weigh
  rw [e1, e2, cl, e3]
  have bit : ∀ t : Nat, t < nt → (((taS plf (nI c) nt) >>> ((nI t) &&& 31)) &&& 1 = 0 ↔ ¬ pl t = nI c) := fun t h => by
    rw [bt_tst (by omega), ta_bt (by omega) nt hnt, hL t h]
    by_cases q : plf t = nI c
    · rw [decide_eq_true ⟨h, q⟩]; exact ⟨fun z => absurd z (by decide), fun z => absurd q z⟩
    · rw [decide_eq_false (fun z => q z.2)]; exact ⟨fun _ => q, fun _ => rfl⟩
  generalize hth : taS plf (nI c) nt = th at bit
  generalize smS tf th 1 nt = W
  generalize smS tf th 2 nt = U
  have kn : ∀ t : Nat, t < nt → ∃ a : Nat, a ≤ 19 ∧ kbT (li c) W U hN uN t = nI a := fun t h => by
    obtain ⟨k1, k2⟩ := kbT_n (li := li c) (ot := W) (off := U) (hN := hN) (hu t h).2
    exact ⟨_, k2, k1⟩
  have key : ∀ n : Nat, n ≤ nt → rWg (kbT (li c) W U hN uN) uN nt (s_X6_findThingToWeigh_26 th (li c) (W - U) (W + U) tf (-1) 0 1 n) (wbS (kbT (li c) W U hN uN) un pl (nI c) n) := by
    intro n
    induction n with
    | zero => intro _; exact ⟨rfl, Or.inl ⟨rfl, rfl, rfl⟩⟩
    | succ n ih =>
      intro hn
      have ih := ih (by omega)
      rw [s_X6_findThingToWeigh_26, wbS]
      generalize s_X6_findThingToWeigh_26 th (li c) (W - U) (W + U) tf (-1) 0 1 n = Z at ih
      generalize wbS (kbT (li c) W U hN uN) un pl (nI c) n = wb at ih
      obtain ⟨z1, z2, z3⟩ := Z
      obtain ⟨i1, i2⟩ := ih
      replace i1 : z1 = wb := i1
      subst i1
      show rWg _ uN nt (s_X6_findThingToWeigh_26s th (li c) (W - U) (W + U) tf n z1 z2 z3) _
      unfold s_X6_findThingToWeigh_26s
      obtain ⟨u1, u2⟩ := hu n (by omega)
      obtain ⟨w1, w2⟩ := hw n (by omega)
      have a1 : tat 84 tf (nI n * 7 + 1) = nI (hN n) := by rw [ta3 7 1 rfl 7 1 rfl rfl (by omega) (by decide), ← (hT n (by omega)).2.1, w1]
      have a2 : tat 84 tf (nI n * 7 + 2) = nI (uN n) := by rw [ta3 7 2 rfl 7 2 rfl rfl (by omega) (by decide), ← (hT n (by omega)).2.2.1, u1]
      have tk : teS (W - U) (W + U) (li c) (nI (hN n)) (nI (uN n)) (hN n - uN n) (uN n + uN n + 1) = kbT (li c) W U hN uN n := te_kb _
      obtain ⟨a, ha, ea⟩ := kn n (by omega)
      have tl : (2 * nI (uN n) + 1).toInt64 = lN (2 * uN n + 1) := by rw [show (2 : Int32) = nI 2 from rfl, pk_mul, nI_1, nI_l (by omega)]
      have t2 : 2 * un n + 1 = nI (2 * uN n + 1) := by rw [u1, show (2 : Int32) = nI 2 from rfl, pk_mul, nI_1]
      have al : (nI a).toInt64 = lN a := nI_l (by omega)
      rw [a1, a2, nI_clamp (show hN n < 2 ^ 31 by omega), nI_clamp (show uN n < 2 ^ 31 by omega), tk, ea, al, tl]
      have new : rWg (kbT (li c) W U hN uN) uN nt (nI n, lN a, lN (2 * uN n + 1)) (nI n) := ⟨rfl, Or.inr ⟨n, a, by omega, ha, rfl, ea, rfl, rfl⟩⟩
      have old : rWg (kbT (li c) W U hN uN) uN nt (z1, z2, z3) z1 := ⟨rfl, i2⟩
      by_cases c0 : pl n = nI c
      · rw [if_neg (fun q => ((bit n (by omega)).mp q) c0), if_pos c0, if_neg (fun q => by
          have := (pk_lLT (b := 0) (show a < 2 ^ 63 by omega) (by decide)).mp q
          exact absurd this (Nat.not_lt_zero _))]
        rcases i2 with ⟨j1, j2, j3⟩ | ⟨b, q, hb, hq, j1, j2, j3, j4⟩
        · rw [if_pos j1, if_pos j1]
          exact new
        · have nb : ¬ z1 = -1 := by rw [j1]; exact nI_n1 (by omega)
          rw [if_neg nb, if_neg nb]
          replace j3 : z2 = lN q := j3
          replace j4 : z3 = lN (2 * uN b + 1) := j4
          obtain ⟨ub1, ub2⟩ := hu b hb
          have tb : 2 * un b + 1 = nI (2 * uN b + 1) := by rw [ub1, show (2 : Int32) = nI 2 from rfl, pk_mul, nI_1]
          have cb : z1.toNatClampNeg = b := by rw [j1]; exact nI_clamp (by omega)
          have m1 : a * (2 * uN b + 1) ≤ 19 * 19 := Nat.mul_le_mul ha (by omega)
          have m2 : q * (2 * uN n + 1) ≤ 19 * 19 := Nat.mul_le_mul hq (by omega)
          rw [cb, tb, j2, t2, j3, j4, lN_mul, lN_mul, pk_mul, pk_mul]
          rw [j3, j4] at old
          by_cases cm : a * (2 * uN b + 1) ≤ q * (2 * uN n + 1)
          · rw [if_pos ((pk_lLE (by omega) (by omega)).mpr cm), if_pos ((nI_leI (by omega) (by omega)).mpr cm)]
            exact old
          · rw [if_neg (fun z => cm ((pk_lLE (by omega) (by omega)).mp z)), if_neg (fun z => cm ((nI_leI (by omega) (by omega)).mp z))]
            exact new
      · rw [if_pos ((bit n (by omega)).mpr c0), if_neg c0]
        exact old
  obtain ⟨k1, k2⟩ := key nt (Nat.le_refl _)
  have kw : (if li c < W + U then if W - U ≤ li c then (2 : Int32) else 0 else 1) = s_X6_known (li c) (W - U) (W + U) := by unfold s_X6_known; rfl
  rw [kw]
  unfold s_X6_findThingToWeigh_0_6 s_X6_findThingToWeigh_0_7 s_X6_findThingToWeigh_0_8
  generalize s_X6_findThingToWeigh_26 th (li c) (W - U) (W + U) tf (-1) 0 1 nt = Z at k1 k2
  by_cases g : s_X6_known (li c) (W - U) (W + U) = 2
  · simp only [if_pos g]
    generalize wbS (kbT (li c) W U hN uN) un pl (nI c) nt = wb at k1 k2
    unfold wgS
    rcases k2 with ⟨j1, j2, j3⟩ | ⟨b, a, hb, ha, j1, j2, j3, j4⟩
    · rw [if_pos j1, j2, j3]
      have r0 : rdS 0 1 0 = 0 := by
        have := rd_eq (a := 0) (b := 1) (c := 0) (by decide) (by decide) (by decide) (by decide)
        rw [Nat.zero_div] at this
        exact this
      have r1 : rdS 0 1 1 = 1 := by
        have := rd_eq (a := 0) (b := 1) (c := 1) (by decide) (by decide) (by decide) (by decide)
        rw [Nat.gcd_zero_left, Nat.div_one] at this
        exact this
      rw [r0, r1]
      rcases hy with rfl | rfl | rfl
      · rw [if_pos rfl, if_pos rfl, k1, j1]
      · rw [if_neg (by decide), if_neg (by decide), if_pos rfl]; decide
      · rw [if_neg (by decide), if_neg (by decide), if_neg (by decide)]; decide
    · have nb : ¬ wb = -1 := by rw [j1]; exact nI_n1 (by omega)
      have cb : wb.toNatClampNeg = b := by rw [j1]; exact nI_clamp (by omega)
      obtain ⟨ub1, ub2⟩ := hu b hb
      have tb : 2 * un b + 1 = nI (2 * uN b + 1) := by rw [ub1, show (2 : Int32) = nI 2 from rfl, pk_mul, nI_1]
      have gp : 0 < Nat.gcd a (2 * uN b + 1) := Nat.gcd_pos_of_pos_right a (by omega)
      have gq : Nat.gcd a (2 * uN b + 1) ≤ 2 * uN b + 1 := Nat.gcd_le_right a (by omega)
      rw [if_neg nb, cb, tb, j2, j3, j4, nI_clamp (by omega), nI_clamp (by omega), lN_i, Nat.gcd_comm (2 * uN b + 1) a, rd_eq (by omega) (by omega) (by omega) (by omega), rd_eq (by omega) (by omega) (by omega) (by omega), lN_i, lN_i, pk_div (by omega) gp (by omega), pk_div (by omega) gp (by omega)]
      rcases hy with rfl | rfl | rfl
      · rw [if_pos rfl, if_pos rfl, k1]
      · simp only [show ¬ (1 : Int32) = 0 from by decide, if_true, if_false]
      · simp only [show ¬ (2 : Int32) = 0 from by decide, show ¬ (2 : Int32) = 1 from by decide, if_false]
  · simp only [if_neg g]
    unfold wgS
    rw [if_pos rfl]
    rcases hy with rfl | rfl | rfl
    · rw [if_pos rfl, if_pos rfl]
    · rw [if_neg (by decide), if_neg (by decide), if_pos rfl]; decide
    · rw [if_neg (by decide), if_neg (by decide), if_neg (by decide)]; decide
end
