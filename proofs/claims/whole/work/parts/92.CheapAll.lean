/-! for one case: the class's answer and row are the reference's -/
noncomputable section
theorem eq_cheap {nl nt nc nq c : Nat} (hnt : nt ≤ 12) (hnc : nc ≤ 5) (hnq : nq ≤ 6) {td ch0 : Int32} {rf f to tf cf qf plf ki he un wi va ht pl ow li ho co bo pt pr fa ft faf lof wof : Nat → Int32} (hR : rlF nl td rf f) (h6 : to 6 = nI nl) (hT : rlT nt tf ki he un wi va ht) (hC : rlC nc cf ow li ho co bo) (hQ : rlQ nq qf pt pr) (hL : rlL nt plf pl) (hW : wtOK nt tf) (hl : liOK nc cf) (hV : ∀ t : Nat, t < nt → ∃ k : Nat, tf (7 * t + 4) = nI k ∧ k ≤ 999) (hQ2 : ∀ i : Nat, i < nq → ∃ k : Nat, qf (2 * i + 1) = nI k ∧ k ≤ 999) (hc : c < nc) :
    (coS he va (fun t => s_X13_priceOf nq he pt pr (nI t)) (s_X13_sumAt nt ki he wi ht pl (nI c) 5) nt (fun w m => feeByS nl to f li bo (nI c) w m) nt 0 0 0 0 (0, ch0, fa, ft)).2.1 = s_X12_cheap nl nt nq td lof wof cf tf qf rf plf (nI c)
    ∧ ∀ t : Nat, t < nt → (coS he va (fun t => s_X13_priceOf nq he pt pr (nI t)) (s_X13_sumAt nt ki he wi ht pl (nI c) 5) nt (fun w m => feeByS nl to f li bo (nI c) w m) nt 0 0 0 0 (0, ch0, fa, ft)).2.2.1 t = s_X3_keepRow_2 ((s_X3_findLosses_2 nq tf qf lof wof nt).2) ((s_X3_leastFor_34 nl nt nq td lof wof cf tf qf rf plf (nI c) (feeS nl rf td (smS tf (taS plf (nI c) nt) 1 nt) (tat 25 cf ((nI c) * 5 + 1)) (bcI (taS plf (nI c) nt)) (tat 25 cf ((nI c) * 5 + 4))) 0 (4096 - 1)).2) faf 12 t := by
  have A5 : s_X13_sumAt nt ki he wi ht pl (nI c) 5 = taS plf (nI c) nt := (eq_bits hnt hL nt (Nat.le_refl _)).1
  rw [A5]
  obtain ⟨b, hb, eb⟩ := hl c hc
  obtain ⟨-, c1, -, -, c4⟩ := hC c hc
  have li_b : li c = nI b := c1.trans eb
  obtain ⟨q, hq⟩ : ∃ q : Nat → Nat, ∀ t : Nat, q t = (prS qf (tat 84 tf (nI t * 7 + 1)) nq 0).toNatClampNeg := ⟨fun t => (prS qf (tat 84 tf (nI t * 7 + 1)) nq 0).toNatClampNeg, fun _ => rfl⟩
  obtain ⟨pb, hpb⟩ : ∃ pb : Nat → Bool, ∀ t : Nat, pb t = decide (¬ prS qf (tat 84 tf (nI t * 7 + 1)) nq 0 = -1) := ⟨fun t => decide (¬ prS qf (tat 84 tf (nI t * 7 + 1)) nq 0 = -1), fun _ => rfl⟩
  obtain ⟨v, hv⟩ : ∃ v : Nat → Nat, ∀ t : Nat, v t = (tf (7 * t + 4)).toNatClampNeg := ⟨fun t => (tf (7 * t + 4)).toNatClampNeg, fun _ => rfl⟩
  obtain ⟨h, hh⟩ : ∃ h : Nat → Nat, ∀ t : Nat, h t = (tat 84 tf (nI t * 7 + 1)).toNatClampNeg := ⟨fun t => (tat 84 tf (nI t * 7 + 1)).toNatClampNeg, fun _ => rfl⟩
  obtain ⟨zb, hzb⟩ : ∃ zb : Nat → Bool, ∀ t : Nat, zb t = decide (t < nt ∧ plf t = nI c) := ⟨fun t => decide (t < nt ∧ plf t = nI c), fun _ => rfl⟩
  obtain ⟨wo, hwo⟩ : ∃ wo : Nat → Nat, ∀ t : Nat, wo t = if pb t = true then (if v t ≤ q t then 1 else 2) else 1 := ⟨fun t => if pb t = true then (if v t ≤ q t then 1 else 2) else 1, fun _ => rfl⟩
  obtain ⟨F, hF⟩ : ∃ F : Nat → Nat → Nat, ∀ w m : Nat, F w m = (feeByS nl to f li bo (nI c) (nI w) (nI m)).toNatClampNeg := ⟨fun w m => (feeByS nl to f li bo (nI c) (nI w) (nI m)).toNatClampNeg, fun _ _ => rfl⟩
  have aP : ∀ t : Nat, t < nt → (prS qf (tat 84 tf (nI t * 7 + 1)) nq 0 = -1 ∧ pb t = false) ∨ (prS qf (tat 84 tf (nI t * 7 + 1)) nq 0 = nI (q t) ∧ q t ≤ 999 ∧ pb t = true) := fun t ht9 => by
    rcases pr_b (w := tat 84 tf (nI t * 7 + 1)) hnq hQ2 nq 0 (Nat.zero_add _) with e | ⟨k, e, hk⟩
    · refine Or.inl ⟨e, ?_⟩
      rw [hpb, e]; rfl
    · refine Or.inr ⟨?_, ?_, ?_⟩
      · rw [hq, e, nI_clamp (by omega)]
      · rw [hq, e, nI_clamp (by omega)]; exact hk
      · rw [hpb, e]; exact decide_eq_true (nI_n1 (by omega))
  have aV : ∀ t : Nat, t < nt → tf (7 * t + 4) = nI (v t) ∧ v t ≤ 999 := fun t ht9 => by
    obtain ⟨k, e, hk⟩ := hV t ht9
    rw [hv, e, nI_clamp (by omega)]; exact ⟨rfl, hk⟩
  have aH : ∀ t : Nat, t < nt → tat 84 tf (nI t * 7 + 1) = nI (h t) ∧ h t ≤ 60 := fun t ht9 => by
    obtain ⟨g1, -, -, g4, -⟩ := hW t ht9
    rw [hh]; exact ⟨g1, g4⟩
  have aF : ∀ w m : Nat, w ≤ 720 → feeByS nl to f li bo (nI c) (nI w) (nI m) = nI (F w m) ∧ F w m ≤ 9999 := fun w m hw => by
    obtain ⟨k, hk, e⟩ := fb_b (ns := nl) (to := to) (f := f) (bo := bo) (z := nI m) (show c < 10 by omega) hw hb li_b
    rw [hF, e, nI_clamp (by omega)]; exact ⟨rfl, hk⟩
  have aZ : ∀ i : Nat, i < 32 → bt (taS plf (nI c) nt) i = zb i := fun i hi => by rw [ta_bt hi nt hnt, hzb]
  have zlt : ∀ t : Nat, zb t = true → t < nt := fun t ht9 => by rw [hzb] at ht9; exact (of_decide_eq_true ht9).1
  have wo0 : ∀ t : Nat, ¬ wo t = 0 := fun t => by rw [hwo]; split <;> (try split) <;> omega
  have hwk : woK nt v q wo pb := fun t ht9 => by
    rw [hwo]
    rcases aP t ht9 with ⟨-, e⟩ | ⟨-, -, e⟩
    · rw [e, if_neg (by decide)]; exact Or.inl ⟨rfl, fun z => absurd z (by decide)⟩
    · rw [e, if_pos rfl]
      by_cases c9 : v t ≤ q t
      · rw [if_pos c9]; exact Or.inl ⟨rfl, fun _ => c9⟩
      · rw [if_neg c9]; exact Or.inr ⟨rfl, rfl, by omega⟩
  have hD : dOK nt he va (fun t => s_X13_priceOf nq he pt pr (nI t)) (taS plf (nI c) nt) (fun w m => feeByS nl to f li bo (nI c) w m) v q h zb pb F := by
    refine ⟨hnt, fun t ht9 => ?_, fun t ht9 => ?_, fun t ht9 => ?_, fun t ht9 => ?_, fun w m hw => aF w m hw⟩
    · rw [bt_tst (by omega), aZ t (by omega)]
    · have e := aH t ht9
      rw [ta3 7 1 rfl 7 1 rfl rfl (by omega) (by decide)] at e
      rw [(hT t ht9).2.1]; exact e
    · rw [(hT t ht9).2.2.2.2.1]; exact aV t ht9
    · have e := eq_price hnt hnq hT hQ ht9
      show (s_X13_priceOf nq he pt pr (nI t) = -1 ∧ _) ∨ (s_X13_priceOf nq he pt pr (nI t) = nI (q t) ∧ _)
      rw [e]; exact aP t ht9
  obtain ⟨-, ρ, ⟨B1, B2, B3, B4⟩, -, -, B5⟩ := dfs hD nt 0 (Nat.zero_add _) (fun _ => 0) 0 0 0 (0, ch0, fa, ft) (fun t ht9 => absurd ht9 (Nat.not_lt_zero _)) rfl rfl rfl (fun u hu => absurd hu (Nat.not_lt_zero _)) (Or.inl rfl)
  have B6 : ∀ σ : Nat → Nat, vlR zb pb nt σ → KL (csR v q h zb F nt ρ) (cdS ρ nt) (csR v q h zb F nt σ) (cdS σ nt) := fun σ hσ => B5 σ hσ (fun u hu => absurd hu (Nat.not_lt_zero _))
  /- the class's side -/
  have fl := fl_at (nq := nq) hnt (lof := lof) (wof := wof) (v := v) (q := q) (wo := wo) (tf := tf) (qf := qf) (fun t ht9 => by rw [ta3 7 4 rfl 7 4 rfl rfl (by omega) (by decide)]; exact aV t ht9) (fun t ht9 => by
    rw [hwo]
    rcases aP t ht9 with ⟨e1, e⟩ | ⟨e1, e2, e⟩
    · rw [e, if_neg (by decide)]; exact Or.inl ⟨e1, rfl⟩
    · rw [e, if_pos rfl]; exact Or.inr ⟨e1, e2, rfl⟩) nt (Nat.le_refl _)
  have feX : ∀ (γ : Nat) (X : Int32), (∀ i : Nat, i < 32 → bt X i = (zb i && !γ.testBit i)) → feeS nl rf td (smS tf X 1 nt) (tat 25 cf (nI c * 5 + 1)) (bcI X) (tat 25 cf (nI c * 5 + 4)) = nI (F (swS zb h (rwG wo γ) nt) (swS zb (fun _ => 1) (rwG wo γ) nt)) := fun γ X hX => by
    have s1 := sm_sw hnt hX (fun t _ => wo0 t) (fun t ht9 => (aH t ht9).1) nt (Nat.le_refl _)
    obtain ⟨k, hk, ek⟩ := lt_bits (x := X) (fun i h1 h2 => by
      rw [hX i h2]
      cases hz9 : zb i with
      | false => rfl
      | true => exact absurd (zlt i hz9) (by omega))
    have s2 : bcI X = nI (swS zb (fun _ => 1) (rwG wo γ) nt) := by
      have e12 := ct_sw (n := nt) hX (fun t _ => wo0 t) 12 (Nat.le_refl _)
      rw [show (12 : Nat) = nt + (12 - nt) by omega, sw_o zlt, ← show (12 : Nat) = nt + (12 - nt) by omega] at e12
      rw [← e12, ek, bc_ct hk]
    have wb := sw_b (zb := zb) (ρ := rwG wo γ) (fun t ht9 => (aH t ht9).2) nt (Nat.le_refl _)
    obtain ⟨f1, -⟩ := aF (swS zb h (rwG wo γ) nt) (swS zb (fun _ => 1) (rwG wo γ) nt) (by omega)
    rw [s1, s2, ta3 5 1 rfl 5 1 rfl rfl (by omega) (by decide), ta3 5 4 rfl 5 4 rfl rfl (by omega) (by decide), ← c1, ← c4, ← fee_eq (to6 := 0) hR h6 (show c < 5 by omega) rfl (by omega) li_b hb]
    exact f1
  have sub : ∀ γ : Nat, γ < 4096 → ((nI γ) &&& ((taS plf (nI c) nt) ^^^ (-1)) = 0 ↔ sbG zb nt γ) := fun γ hγ => by
    constructor
    · intro e i hi
      have h32 : i < 32 := Nat.lt_of_not_le (fun z => by
        rw [Nat.testBit_lt_two_pow (Nat.lt_of_lt_of_le (show γ < 2 ^ 32 by omega) (Nat.pow_le_pow_right (by decide) z))] at hi
        exact absurd hi (by decide))
      have := sub_bt e h32 (by rw [bt_nI (by omega) h32]; exact hi)
      rw [aZ i h32] at this
      exact ⟨zlt i this, this⟩
    · intro e
      refine bt_sub (fun i hi hb9 => ?_)
      rw [bt_nI (by omega) hi] at hb9
      rw [aZ i hi]; exact (e i hb9).2
  have rz : ∀ γ : Nat, sbG zb nt γ → ∀ u : Nat, nt ≤ u → rwG wo γ u = 0 := fun γ hs u hu => by
    unfold rwG
    exact if_neg (fun z => absurd (hs u z).1 (by omega))
  have rv : ∀ γ : Nat, sbG zb nt γ → vlR zb pb nt (rwG wo γ) := fun γ hs => rw_vl hwk hs
  have lossE : ∀ γ : Nat, γ < 4096 → sbG zb nt γ → s_X3_lossOf ((s_X3_findLosses_2 nq tf qf lof wof nt).1) (nI γ) = nI (paS v q (rwG wo γ) nt) := fun γ hγ hs => by
    have e := lo_pa hnt hγ hwk hs (fun t ht9 => (fl t ht9).1) 12 (Nat.le_refl _)
    unfold s_X3_lossOf
    rw [e]
    have z := pa_z (v := v) (q := q) (rz γ hs) (12 - nt)
    rw [show nt + (12 - nt) = 12 by omega] at z
    rw [z]
  have rowE : ∀ γ : Nat, γ < 4096 → sbG zb nt γ → s_X3_rowOf ((s_X3_findLosses_2 nq tf qf lof wof nt).2) (nI γ) = nI (cdS (rwG wo γ) nt * 3 ^ (12 - nt)) ∧ cdS (rwG wo γ) nt * 3 ^ (12 - nt) < 531441 := fun γ hγ hs => by
    have e := ro_cd hnt hγ hs (fun t ht9 => (fl t ht9).2) 12 (Nat.le_refl _)
    have z := cd_z (rz γ hs) (12 - nt)
    rw [show nt + (12 - nt) = 12 by omega] at z
    unfold s_X3_rowOf
    rw [e, ← z]
    refine ⟨rfl, ?_⟩
    have b9 := (cd_b (ρ := rwG wo γ) (t := 0) 12 (fun u hu => by
      by_cases h9 : u < nt
      · exact vl_2 (rv γ hs) u h9
      · rw [rz γ hs u (by omega)]; omega)).2
    rw [Nat.zero_add] at b9
    exact b9
  have p3 : 0 < 3 ^ (12 - nt) := Nat.pow_pos (by decide)
  have key : ∀ n : Nat, n ≤ 4095 → ∃ γ : Nat, γ < 4096 ∧ sbG zb nt γ ∧ s_X3_leastFor_34 nl nt nq td lof wof cf tf qf rf plf (nI c) (feeS nl rf td (smS tf (taS plf (nI c) nt) 1 nt) (tat 25 cf ((nI c) * 5 + 1)) (bcI (taS plf (nI c) nt)) (tat 25 cf ((nI c) * 5 + 4))) 0 n = (nI (csR v q h zb F nt (rwG wo γ)), nI γ) ∧ ∀ γ2 : Nat, γ2 ≤ n → sbG zb nt γ2 → KL (csR v q h zb F nt (rwG wo γ)) (cdS (rwG wo γ) nt) (csR v q h zb F nt (rwG wo γ2)) (cdS (rwG wo γ2) nt) := by
    intro n
    induction n with
    | zero =>
      intro _
      have r0 : ∀ u : Nat, 0 ≤ u → rwG wo 0 u = 0 := fun u _ => by unfold rwG; rw [Nat.zero_testBit]; exact if_neg (by decide)
      refine ⟨0, by decide, fun i hi => by rw [Nat.zero_testBit] at hi; exact absurd hi (by decide), ?_, fun γ2 h2 _ => ?_⟩
      · rw [s_X3_leastFor_34, feX 0 (taS plf (nI c) nt) (fun i hi => by rw [aZ i hi, Nat.zero_testBit]; exact (Bool.and_true _).symm)]
        have z := pa_z (v := v) (q := q) r0 nt
        rw [Nat.zero_add] at z
        unfold csR
        rw [z, paS, Nat.zero_add]
        rfl
      · rw [show γ2 = 0 by omega]; exact KL_rf _ _
    | succ n ih =>
      intro hn
      obtain ⟨γ, hγ, hs, e, hall⟩ := ih (by omega)
      rw [s_X3_leastFor_34, e]
      show ∃ γ9 : Nat, γ9 < 4096 ∧ sbG zb nt γ9 ∧ s_X3_leastFor_34s nl nt nq td lof wof cf tf qf rf plf (nI c) n (nI (csR v q h zb F nt (rwG wo γ))) (nI γ) = _ ∧ _
      unfold s_X3_leastFor_34s
      have keep : (sbG zb nt (n + 1) → KL (csR v q h zb F nt (rwG wo γ)) (cdS (rwG wo γ) nt) (csR v q h zb F nt (rwG wo (n + 1))) (cdS (rwG wo (n + 1)) nt)) → ∀ γ2 : Nat, γ2 ≤ n + 1 → sbG zb nt γ2 → KL (csR v q h zb F nt (rwG wo γ)) (cdS (rwG wo γ) nt) (csR v q h zb F nt (rwG wo γ2)) (cdS (rwG wo γ2) nt) := fun hk γ2 h2 hs2 => by
        by_cases e9 : γ2 = n + 1
        · subst e9; exact hk hs2
        · exact hall γ2 (by omega) hs2
      by_cases cs9 : (nI (n + 1)) &&& ((taS plf (nI c) nt) ^^^ (-1)) = 0
      · have hs2 := (sub (n + 1) (by omega)).mp cs9
        have fe := feX (n + 1) ((taS plf (nI c) nt) &&& ((nI (n + 1)) ^^^ (-1))) (fun i hi => by rw [b_and, b_xor, b_m1 i hi, aZ i hi, bt_nI (by omega) hi, Bool.xor_true])
        have cb1 := (cs_b hD (rv γ hs)).1
        have cb2 := (cs_b hD (rv (n + 1) hs2)).1
        have sum : nI (paS v q (rwG wo (n + 1)) nt) + nI (F (swS zb h (rwG wo (n + 1)) nt) (swS zb (fun _ => 1) (rwG wo (n + 1)) nt)) = nI (csR v q h zb F nt (rwG wo (n + 1))) := nI_add _ _
        have pl9 : paS v q (rwG wo (n + 1)) nt ≤ csR v q h zb F nt (rwG wo (n + 1)) := Nat.le_add_right _ _
        obtain ⟨ro1, ro2⟩ := rowE γ hγ hs
        obtain ⟨ro3, ro4⟩ := rowE (n + 1) (by omega) hs2
        rw [if_pos cs9, lossE (n + 1) (by omega) hs2, fe, sum, ro1, ro3]
        have new : KL (csR v q h zb F nt (rwG wo (n + 1))) (cdS (rwG wo (n + 1)) nt) (csR v q h zb F nt (rwG wo γ)) (cdS (rwG wo γ) nt) → ∃ γ9 : Nat, γ9 < 4096 ∧ sbG zb nt γ9 ∧ ((nI (csR v q h zb F nt (rwG wo (n + 1))), nI (n + 1)) : Int32 × Int32) = (nI (csR v q h zb F nt (rwG wo γ9)), nI γ9) ∧ ∀ γ2 : Nat, γ2 ≤ n + 1 → sbG zb nt γ2 → KL (csR v q h zb F nt (rwG wo γ9)) (cdS (rwG wo γ9) nt) (csR v q h zb F nt (rwG wo γ2)) (cdS (rwG wo γ2) nt) := fun hk => ⟨n + 1, by omega, hs2, rfl, fun γ2 h2 hs3 => by
          by_cases e9 : γ2 = n + 1
          · subst e9; exact KL_rf _ _
          · exact KL_tr hk (hall γ2 (by omega) hs3)⟩
        have old : KL (csR v q h zb F nt (rwG wo γ)) (cdS (rwG wo γ) nt) (csR v q h zb F nt (rwG wo (n + 1))) (cdS (rwG wo (n + 1)) nt) → ∃ γ9 : Nat, γ9 < 4096 ∧ sbG zb nt γ9 ∧ ((nI (csR v q h zb F nt (rwG wo γ)), nI γ) : Int32 × Int32) = (nI (csR v q h zb F nt (rwG wo γ9)), nI γ9) ∧ ∀ γ2 : Nat, γ2 ≤ n + 1 → sbG zb nt γ2 → KL (csR v q h zb F nt (rwG wo γ9)) (cdS (rwG wo γ9) nt) (csR v q h zb F nt (rwG wo γ2)) (cdS (rwG wo γ2) nt) := fun hk => ⟨γ, hγ, hs, rfl, keep (fun _ => hk)⟩
        by_cases g1 : paS v q (rwG wo (n + 1)) nt ≤ csR v q h zb F nt (rwG wo γ)
        · rw [if_pos ((nI_leI (by omega) (by omega)).mpr g1)]
          by_cases g2 : csR v q h zb F nt (rwG wo (n + 1)) < csR v q h zb F nt (rwG wo γ)
          · rw [if_pos ((nI_ltI (by omega) (by omega)).mpr g2)]
            exact new (Or.inl g2)
          · rw [if_neg (fun z => g2 ((nI_ltI (by omega) (by omega)).mp z))]
            by_cases g3 : csR v q h zb F nt (rwG wo (n + 1)) = csR v q h zb F nt (rwG wo γ)
            · rw [if_pos (by rw [g3])]
              by_cases g4 : cdS (rwG wo γ) nt ≤ cdS (rwG wo (n + 1)) nt
              · rw [if_pos ((nI_leI (by omega) (by omega)).mpr (Nat.mul_le_mul_right _ g4))]
                exact old (Or.inr ⟨g3.symm, g4⟩)
              · rw [if_neg (fun z => g4 (Nat.le_of_mul_le_mul_right ((nI_leI (by omega) (by omega)).mp z) p3))]
                exact new (Or.inr ⟨g3, by omega⟩)
            · rw [if_neg (fun z => g3 ((nI_eq (by omega) (by omega)).mp z))]
              exact old (Or.inl (by omega))
        · rw [if_neg (fun z => g1 ((nI_leI (by omega) (by omega)).mp z))]
          exact old (Or.inl (by omega))
      · rw [if_neg cs9]
        exact ⟨γ, hγ, hs, rfl, keep (fun z => absurd ((sub (n + 1) (by omega)).mpr z) cs9)⟩
  obtain ⟨γ, hγ, hs, e, hall⟩ := key (4096 - 1) (by decide)
  obtain ⟨γ2, g1, g2⟩ := fin_sp ρ nt
  have g3 : γ2 < 4096 := Nat.lt_of_lt_of_le g1 (Nat.pow_le_pow_right (n := 2) (by decide) hnt)
  have hs2 : sbG zb nt γ2 := fun i hi => by
    obtain ⟨i1, i2⟩ := (g2 i).mp hi
    rcases B2 i i1 with z | ⟨z, -⟩
    · exact absurd z i2
    · exact ⟨i1, z⟩
  have k1 := hall γ2 (by omega) hs2
  have k2 := row_le (h := h) (F := F) hwk B2 g2
  have k3 := B6 (rwG wo γ) (rv γ hs)
  have k4 := KL_tr k1 k2
  have ec : csR v q h zb F nt ρ = csR v q h zb F nt (rwG wo γ) := by unfold KL at k3 k4; omega
  have ed : cdS ρ nt = cdS (rwG wo γ) nt := by unfold KL at k3 k4; omega
  have er := cd_inj nt (fun u hu => ⟨vl_2 B2 u hu, vl_2 (rv γ hs) u hu⟩) ed
  refine ⟨?_, fun t ht9 => ?_⟩
  · unfold s_X12_cheap s_X3_leastFor
    rw [e, B3, ec]
  · rw [B4 t ht9, e, kr_at 12 (Nat.le_refl _) t (by omega), fw_r hnt hγ hs (fun t ht9 => (fl t ht9).2) (by omega), er t ht9]
end
