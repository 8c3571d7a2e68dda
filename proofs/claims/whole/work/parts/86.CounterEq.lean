/-! a counter by a seed: one in both -/
noncomputable section
theorem bt_15 : ∀ i : Nat, i < 32 → bt 32767 i = decide (i < 15) := by decide +kernel
theorem sh16 (v : Int32) : ((v.toUInt32 >>> ((16 : Int32).toUInt32 &&& Int32.toUInt32 31)).toInt32) &&& 32767 = (v >>> ((16 : Int32) &&& 31)) &&& 32767 := by
  refine b_ext (fun i hi => ?_)
  rw [b_and, b_and, bt_15 i hi]
  by_cases h : i < 15
  · have e1 : bt ((v.toUInt32 >>> ((16 : Int32).toUInt32 &&& Int32.toUInt32 31)).toInt32) i = bt v (16 + i) := by
      show (v.toUInt32 >>> ((16 : Int32).toUInt32 &&& Int32.toUInt32 31)).toInt32.toBitVec.toNat.testBit i = v.toBitVec.toNat.testBit (16 + i)
      rw [pk_ushr v 16 16 (by decide), Nat.testBit_div_two_pow, Nat.add_comm]
    have e2 : bt (v >>> ((16 : Int32) &&& 31)) i = if 16 + i < 32 then bt v (16 + i) else bt v 31 := b_sshr 16 (by decide) v hi
    rw [e1, e2, if_pos (by omega)]
  · rw [decide_eq_false h, Bool.and_false, Bool.and_false]
theorem dr_eq (v : Int32) {d : Int32} {k : Nat} (hd : d = nI k) (h0 : 0 < k) (hk : k < 100) : ∃ j : Nat, j < k ∧ s_X10_draw v d = nI j ∧ ((((v * 1103515245) + 12345) >>> ((16 : Int32) &&& 31)) &&& 32767) - ((((v * 1103515245) + 12345) >>> ((16 : Int32) &&& 31)) &&& 32767) / d * d = nI j := by
  have hnle : ¬ d ≤ 0 := by rw [hd]; exact nI_nle h0 (by omega)
  unfold s_X10_draw
  rw [if_neg hnle, sh16]
  obtain ⟨j, hj, e⟩ := pk_andE (((v * 1103515245) + 12345) >>> ((16 : Int32) &&& 31)) (m := 32767) 15 (by decide)
  rw [e, hd, pk_rem (by omega) h0 (by omega)]
  exact ⟨j % k, Nat.mod_lt _ h0, rfl, rfl⟩
theorem ag_eq {nt nc : Nat} (hnt : nt ≤ 12) (hnc : nc ≤ 5) {tf cf plf ki he un wi va ht pl ow li ho co bo : Nat → Int32} (hT : rlT nt tf ki he un wi va ht) (hC : rlC nc cf ow li ho co bo) (hL : rlL nt plf pl) : (loS (fun c => ovS nt cf tf plf (nI c)) nc 0 = -1 → s_X13_allGo nt nc li ki he wi ht pl = 1) ∧ (¬ loS (fun c => ovS nt cf tf plf (nI c)) nc 0 = -1 → s_X13_allGo nt nc li ki he wi ht pl = 0) := by
  have key : ∀ r c : Nat, c + r = nc → (loS (fun c => ovS nt cf tf plf (nI c)) r c = -1 → s_X13_allGo_2 nt li ki he wi ht pl r c = 1) ∧ (¬ loS (fun c => ovS nt cf tf plf (nI c)) r c = -1 → s_X13_allGo_2 nt li ki he wi ht pl r c = 0) := by
    intro r
    induction r with
    | zero => intro c _; exact ⟨fun _ => rfl, fun h => absurd rfl h⟩
    | succ r ih =>
      intro c hc
      have eo : s_X13_overOf nt li ki he wi ht pl (nI c) = ovS nt cf tf plf (nI c) := by
        unfold s_X13_overOf
        rw [nI_clamp (by omega)]
        exact eq_over hnt hT hC hL (by omega) hnc
      rw [s_X13_allGo_2, loS, eo]
      by_cases g : ovS nt cf tf plf (nI c) ≤ 0
      · rw [if_pos g, if_pos g]; exact ih (c + 1) (by omega)
      · rw [if_neg g, if_neg g]
        exact ⟨fun h => absurd h (nI_n1 (by omega)), fun _ => rfl⟩
  exact key nc 0 (Nat.zero_add _)
theorem tr_2 {nt t : Nat} {plf pl : Nat → Int32} {y : Int32} (hnt : nt ≤ 12) (ht : t < nt) (hL : rlL nt plf pl) : rlL nt (tset 12 plf (nI t) y) (upd pl t y) := fun i hi => by
  rw [tset_in (show t < 12 by omega) (by decide)]
  by_cases z : i = t
  · subst z; rw [pk_us, pk_us]
  · rw [pk_un z, pk_un z]; exact hL i hi
def rCt (nt : Nat) (S : Int32 × Int32 × Int32 × Int32 × (Nat → Int32)) (R : Int32 × Int32 × Int32 × (Nat → Int32)) : Prop := S.1 = R.2.2.1 ∧ S.2.1 = R.1 ∧ S.2.2.1 = R.2.1 ∧ rlL nt S.2.2.2.2 R.2.2.2 ∧ okL nt R.2.2.2
theorem rCt_i {nt : Nat} {a b c d : Int32} {f g : Nat → Int32} (hL : rlL nt f g) (hK : okL nt g) : rCt nt (a, b, c, d, f) (b, c, a, g) := ⟨rfl, rfl, rfl, hL, hK⟩
theorem ct_s {nt nc np nq : Nat} (hnt : nt ≤ 12) (hnc : nc ≤ 5) (hnp : np ≤ 4) (hnq : nq ≤ 6) (h0t : 0 < nt) (h0c : 0 < nc) {to hv tf cf pf qf ki he un wi va ht ow li ho co bo own po be pt pr : Nat → Int32} (hT : rlT nt tf ki he un wi va ht) (hC : rlC nc cf ow li ho co bo) (hP : rlP np pf own po be) (hQ : rlQ nq qf pt pr) (hz : ∀ t : Nat, t < nt → ¬ ki t = 1 → ht t = 0)
    (k0 : to 0 = nI np) (k1 : to 1 = nI nc) (k2 : to 2 = nI nt) (h5 : hv 5 = nI np) (h6 : hv 6 = nI nc) (h7 : hv 7 = nI nt) (s1 s2 s3 s4 : Int32) (s5 r4 : Nat → Int32) (n : Nat) (eL : rlL nt s5 r4) (eK : okL nt r4) : rCt nt (s_X10_runCounter_44s nt nc nq hv pf cf tf qf n s1 s2 s3 s4 s5) (s_X13_counter_84s nt nc nq to po be li ho bo ki he wi ht pt pr n s2 s3 s1 r4) := by
  unfold s_X10_runCounter_44s s_X13_counter_84s
  obtain ⟨t, ht9, d1, d2⟩ := dr_eq s1 k2 h0t (by omega)
  obtain ⟨c, hc9, d3, d4⟩ := dr_eq ((s1 * 1103515245) + 12345) k1 h0c (by omega)
  rw [d2, d4, nI_clamp (show t < 2 ^ 31 by omega), h6, h7, ← k2, ← k1, d1, d3]
  clear d1 d2 d3 d4
  generalize (((s1 * 1103515245) + 12345) * 1103515245) + 12345 = v2
  have em := eq_may hnt hnc hnp hnq (y := nI c) (co := co) (li := li) (ow := ow) (own := own) (un := un) (va := va) hT hC hP hQ eL hz k0 k1 h5 h6 ht9
  have ep : tat 12 s5 (nI t) = r4 t := (tat_in (by omega) (by decide)).trans (eL t ht9).symm
  obtain ⟨a1, a2⟩ := ag_eq hnt hnc hT hC eL
  obtain ⟨b1, b2⟩ := ag_eq hnt hnc hT hC (tr_2 (y := nI c) hnt ht9 eL)
  rw [em, ep]
  have stay : rCt nt (if loS (fun c => ovS nt cf tf s5 (nI c)) nc 0 = -1 then (v2, (s2 + 1), s3, s4, s5) else (v2, (s2 + 0), s3, s4, s5)) (if s_X13_allGo nt nc li ki he wi ht r4 = 0 then ((s2 + 0), s3, v2, r4) else ((s2 + 1), s3, v2, r4)) := by
    by_cases g : loS (fun c => ovS nt cf tf s5 (nI c)) nc 0 = -1
    · rw [if_pos g, if_neg (by rw [a1 g]; decide)]; exact rCt_i eL eK
    · rw [if_neg g, if_pos (a2 g)]; exact rCt_i eL eK
  obtain ⟨kp, hkp, ekp⟩ := eK t ht9
  by_cases c1 : kp < nc
  · have g1 : ¬ to 1 ≤ r4 t := by rw [ekp, k1]; exact nI_ge c1 (by omega)
    have g2 : ¬ s_X13_isCase to (r4 t) = 0 := cs_in k1 (by omega) c1 ekp
    rw [if_neg g1, if_neg g2]
    by_cases c2 : mcS nt nq hv pf cf tf qf s5 (nI t) (nI c) = 0
    · rw [if_pos c2, if_pos c2]
      exact stay
    · rw [if_neg c2, if_neg c2]
      have nK : okL nt (upd r4 t (nI c)) := fun i hi => by
        by_cases z : i = t
        · subst z; rw [pk_us]; exact ⟨c, by omega, rfl⟩
        · rw [pk_un z]; exact eK i hi
      by_cases g : loS (fun q => ovS nt cf tf (tset 12 s5 (nI t) (nI c)) (nI q)) nc 0 = -1
      · rw [if_pos g, if_neg (by rw [b1 g]; decide)]; exact rCt_i (tr_2 hnt ht9 eL) nK
      · rw [if_neg g, if_pos (b2 g)]; exact rCt_i (tr_2 hnt ht9 eL) nK
  · have g1 : to 1 ≤ r4 t := by rw [ekp, k1]; exact nI_le (by omega) (by omega)
    have g2 : s_X13_isCase to (r4 t) = 0 := cs_out k1 (by omega) (fun ⟨c9, hc, e⟩ => c1 (by
      rw [ekp] at e
      have := (nI_eq (by omega) (by omega)).mp e
      omega))
    rw [if_pos g1, if_pos g2]
    exact stay
theorem eq_ct {nt nc np nq : Nat} (hnt : nt ≤ 12) (hnc : nc ≤ 5) (hnp : np ≤ 4) (hnq : nq ≤ 6) (h0t : 0 < nt) (h0c : 0 < nc) {to hv tf cf pf qf plf ki he un wi va ht pl ow li ho co bo own po be pt pr : Nat → Int32} {x op : Int32} (hT : rlT nt tf ki he un wi va ht) (hC : rlC nc cf ow li ho co bo) (hP : rlP np pf own po be) (hQ : rlQ nq qf pt pr) (hL : rlL nt plf pl) (hz : ∀ t : Nat, t < nt → ¬ ki t = 1 → ht t = 0)
    (k0 : to 0 = nI np) (k1 : to 1 = nI nc) (k2 : to 2 = nI nt) (h5 : hv 5 = nI np) (h6 : hv 6 = nI nc) (h7 : hv 7 = nI nt) (hK : okL nt pl) :
    ∀ n : Nat, rCt nt (s_X10_runCounter_44 nt nc nq hv pf cf tf qf x 0 0 op (fun q => tat 12 plf (nI q)) n) (s_X13_counter_84 nt nc nq to po be li ho bo ki he wi ht pt pr 0 0 x pl n) := by
  intro n
  induction n with
  | zero => exact ⟨rfl, rfl, rfl, cpPl hnt hL, hK⟩
  | succ n ih =>
    rw [s_X10_runCounter_44, s_X13_counter_84]
    generalize s_X10_runCounter_44 nt nc nq hv pf cf tf qf x 0 0 op (fun q => tat 12 plf (nI q)) n = S at ih
    generalize s_X13_counter_84 nt nc nq to po be li ho bo ki he wi ht pt pr 0 0 x pl n = R at ih
    obtain ⟨s1, s2, s3, s4, s5⟩ := S
    obtain ⟨r1, r2, r3, r4⟩ := R
    obtain ⟨e1, e2, e3, eL, eK⟩ := ih
    replace e1 : s1 = r3 := e1
    replace e2 : s2 = r1 := e2
    replace e3 : s3 = r2 := e3
    replace eL : rlL nt s5 r4 := eL
    replace eK : okL nt r4 := eK
    subst e1 e2 e3
    exact ct_s (own := own) (ow := ow) (un := un) (va := va) (co := co) hnt hnc hnp hnq h0t h0c hT hC hP hQ hz k0 k1 k2 h5 h6 h7 s1 s2 s3 s4 s5 r4 n eL eK
/-- what was put aside comes back -/
theorem ct_was {nt : Nat} {pl pw g : Nat → Int32} : ∀ t : Nat, t < nt → s_X13_counter_231 nt pl pw g nt t = pl t := by
  have a : ∀ n : Nat, ∀ t : Nat, t < n → s_X13_counter_41 pl pw n t = pl t := by
    intro n
    induction n with
    | zero => intro t ht; exact absurd ht (Nat.not_lt_zero _)
    | succ n ih =>
      intro t ht
      rw [s_X13_counter_41]
      unfold s_X13_counter_41s
      by_cases e : t = n
      · subst e; rw [pk_us]
      · rw [pk_un e]; exact ih t (by omega)
  have b : ∀ n : Nat, n ≤ nt → ∀ t : Nat, t < n → s_X13_counter_231 nt pl pw g n t = pl t := by
    intro n
    induction n with
    | zero => intro _ t ht; exact absurd ht (Nat.not_lt_zero _)
    | succ n ih =>
      intro hn t ht
      rw [s_X13_counter_231]
      unfold s_X13_counter_231s
      by_cases e : t = n
      · subst e; rw [pk_us]; exact a nt t (by omega)
      · rw [pk_un e]; exact ih (by omega) t (by omega)
  exact b nt (Nat.le_refl _)
theorem ct_wasT {nt : Nat} {pl pw g : Nat → Int32} : ∀ t : Nat, t < nt → s_X13_counterT_231 nt pl pw g nt t = pl t := by
  have a : ∀ n : Nat, ∀ t : Nat, t < n → s_X13_counterT_41 pl pw n t = pl t := by
    intro n
    induction n with
    | zero => intro t ht; exact absurd ht (Nat.not_lt_zero _)
    | succ n ih =>
      intro t ht
      rw [s_X13_counterT_41]
      unfold s_X13_counterT_41s
      by_cases e : t = n
      · subst e; rw [pk_us]
      · rw [pk_un e]; exact ih t (by omega)
  have b : ∀ n : Nat, n ≤ nt → ∀ t : Nat, t < n → s_X13_counterT_231 nt pl pw g n t = pl t := by
    intro n
    induction n with
    | zero => intro _ t ht; exact absurd ht (Nat.not_lt_zero _)
    | succ n ih =>
      intro hn t ht
      rw [s_X13_counterT_231]
      unfold s_X13_counterT_231s
      by_cases e : t = n
      · subst e; rw [pk_us]; exact a nt t (by omega)
      · rw [pk_un e]; exact ih (by omega) t (by omega)
  exact b nt (Nat.le_refl _)
theorem ct_wasC {nt : Nat} {pl pw g : Nat → Int32} : ∀ t : Nat, t < nt → s_X13_counterC_231 nt pl pw g nt t = pl t := by
  have a : ∀ n : Nat, ∀ t : Nat, t < n → s_X13_counterC_41 pl pw n t = pl t := by
    intro n
    induction n with
    | zero => intro t ht; exact absurd ht (Nat.not_lt_zero _)
    | succ n ih =>
      intro t ht
      rw [s_X13_counterC_41]
      unfold s_X13_counterC_41s
      by_cases e : t = n
      · subst e; rw [pk_us]
      · rw [pk_un e]; exact ih t (by omega)
  have b : ∀ n : Nat, n ≤ nt → ∀ t : Nat, t < n → s_X13_counterC_231 nt pl pw g n t = pl t := by
    intro n
    induction n with
    | zero => intro _ t ht; exact absurd ht (Nat.not_lt_zero _)
    | succ n ih =>
      intro hn t ht
      rw [s_X13_counterC_231]
      unfold s_X13_counterC_231s
      by_cases e : t = n
      · subst e; rw [pk_us]; exact a nt t (by omega)
      · rw [pk_un e]; exact ih (by omega) t (by omega)
  exact b nt (Nat.le_refl _)
end
