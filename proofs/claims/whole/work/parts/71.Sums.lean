/-! sets as bits, sums over them: the class's and the reference's are one. (bt, b_*, s_l: pasted from kit/laws/BITS.to-paste) -/
noncomputable section
def bt (x : Int32) (i : Nat) : Bool := x.toBitVec.getLsbD i
theorem b_ext {x y : Int32} (h : ∀ i, i < 32 → bt x i = bt y i) : x = y := Int32.toBitVec_inj.mp (BitVec.eq_of_getLsbD_eq (fun i hi => h i hi))
theorem b_or (x y : Int32) (i : Nat) : bt (x ||| y) i = (bt x i || bt y i) := by unfold bt; rw [Int32.toBitVec_or, BitVec.getLsbD_or]
theorem b_and (x y : Int32) (i : Nat) : bt (x &&& y) i = (bt x i && bt y i) := by unfold bt; rw [Int32.toBitVec_and, BitVec.getLsbD_and]
theorem b_xor (x y : Int32) (i : Nat) : bt (x ^^^ y) i = (bt x i ^^ bt y i) := by unfold bt; rw [Int32.toBitVec_xor, BitVec.getLsbD_xor]
theorem b_big {x : Int32} {i : Nat} (h : 32 ≤ i) : bt x i = false := BitVec.getLsbD_of_ge _ _ h
theorem b_m1 : ∀ i, i < 32 → bt (-1) i = true := by decide +kernel
theorem b_0 (i : Nat) : bt 0 i = false := BitVec.getLsbD_zero
theorem s_l : ∀ n, n < 32 → ((nI n &&& 31).toBitVec.smod 32).toNat = n := by decide +kernel
theorem b_shl (n : Nat) (hn : n < 32) (x : Int32) {i : Nat} (hi : i < 32) : bt (x <<< (nI n &&& 31)) i = (decide (n ≤ i) && bt x (i - n)) := by
  unfold bt
  rw [Int32.toBitVec_shiftLeft]
  show (x.toBitVec <<< ((nI n &&& 31).toBitVec.smod 32).toNat).getLsbD i = _
  rw [s_l n hn, BitVec.getLsbD_shiftLeft]
  rcases Nat.lt_or_ge i n with h | h
  · simp [h, Nat.not_le.mpr h]
  · simp [hi, h, Nat.not_lt.mpr h]
theorem b_sshr (n : Nat) (hn : n < 32) (x : Int32) {i : Nat} (hi : i < 32) : bt (x >>> (nI n &&& 31)) i = if n + i < 32 then bt x (n + i) else bt x 31 := by
  unfold bt
  rw [Int32.toBitVec_shiftRight]
  show (x.toBitVec.sshiftRight ((nI n &&& 31).toBitVec.smod 32).toNat).getLsbD i = _
  rw [s_l n hn, BitVec.getLsbD_sshiftRight, BitVec.msb_eq_getLsbD_last]
  simp [hi]
theorem bt_1 : ∀ i : Nat, i < 32 → bt 1 i = decide (i = 0) := by decide +kernel
theorem bt_tst {x : Int32} {t : Nat} (ht : t < 32) : (x >>> (nI t &&& 31)) &&& 1 = 0 ↔ bt x t = false := by
  have h0 : bt ((x >>> (nI t &&& 31)) &&& 1) 0 = bt x t := by
    rw [b_and, b_sshr t ht x (by omega), bt_1 0 (by omega), if_pos (by omega)]
    simp
  constructor
  · intro h; rw [← h0, h]; exact b_0 0
  · intro h
    refine b_ext (fun i hi => ?_)
    rw [b_0]
    by_cases hi0 : i = 0
    · rw [hi0, h0, h]
    · rw [b_and, bt_1 i hi, decide_eq_false hi0, Bool.and_false]
theorem bt_tst1 {x : Int32} {t : Nat} (ht : t < 32) : (x >>> (nI t &&& 31)) &&& 1 = 1 ↔ bt x t = true := by
  constructor
  · intro h
    cases hb : bt x t with
    | true => rfl
    | false => exact absurd (h.symm.trans ((bt_tst ht).mpr hb)) (by decide)
  · intro h
    refine (b01 _).resolve_left (fun q => ?_)
    rw [(bt_tst ht).mp q] at h
    exact absurd h (by decide)
theorem bt_one {t i : Nat} (ht : t < 32) (hi : i < 32) : bt ((1 : Int32) <<< (nI t &&& 31)) i = decide (i = t) := by
  rw [b_shl t ht 1 hi]
  by_cases h : t ≤ i
  · rw [bt_1 (i - t) (by omega), decide_eq_true h, Bool.true_and]
    by_cases e : i = t
    · rw [decide_eq_true e, decide_eq_true (by omega)]
    · rw [decide_eq_false e, decide_eq_false (by omega)]
  · rw [decide_eq_false h, Bool.false_and, decide_eq_false (by omega)]
/-- the bits of the things at a place -/
theorem ta_bt {plf : Nat → Int32} {p : Int32} {i : Nat} (hi : i < 32) : ∀ n : Nat, n ≤ 12 → bt (taS plf p n) i = decide (i < n ∧ plf i = p)
  | 0, _ => by rw [taS, b_0]; simp
  | n + 1, h => by
    have ih := ta_bt (plf := plf) (p := p) hi n (by omega)
    rw [taS, tat_in (by omega) (by decide)]
    by_cases e : plf n = p
    · rw [if_pos e, b_or, ih, bt_one (by omega) hi]
      by_cases q : i = n
      · subst q; simp [e]
      · rw [decide_eq_false q, Bool.or_false]
        simp only [decide_eq_decide]
        constructor <;> rintro ⟨a, b⟩ <;> exact ⟨by omega, b⟩
    · rw [if_neg e, ih]
      by_cases q : i = n
      · subst q; simp [e]
      · simp only [decide_eq_decide]
        constructor <;> rintro ⟨a, b⟩ <;> exact ⟨by omega, b⟩
theorem sm_eq {nt : Nat} (hnt : nt ≤ 12) {tf plf ki he wi ht pl : Nat → Int32} {p y : Int32} {col : Int32} {val : Nat → Int32} (hL : ∀ t : Nat, t < nt → pl t = plf t) (hv : ∀ t : Nat, t < nt → ∀ a : Int32, s_X13_sumAt_5s ki he wi ht pl p y t a = if pl t = p then a + val t else a) (hc : ∀ t : Nat, t < nt → tat 84 tf (nI t * 7 + col) = val t) : ∀ n : Nat, n ≤ nt → s_X13_sumAt_5 ki he wi ht pl p y 0 n = smS tf (taS plf p nt) col n
  | 0, _ => rfl
  | n + 1, h => by
    rw [s_X13_sumAt_5, smS, sm_eq hnt hL hv hc n (by omega), hv n (by omega), hc n (by omega)]
    by_cases e : pl n = p
    · rw [if_pos e, if_neg (fun q => ?_)]
      have := (bt_tst (x := taS plf p nt) (t := n) (by omega)).mp q
      rw [ta_bt (by omega) nt hnt, decide_eq_true ⟨by omega, by rw [← hL n (by omega)]; exact e⟩] at this
      exact absurd this (by decide)
    · rw [if_neg e, if_pos ((bt_tst (by omega)).mpr ?_)]
      rw [ta_bt (by omega) nt hnt, decide_eq_false (fun q => e (by rw [hL n (by omega)]; exact q.2))]
/-- tables of things in both -/
def rlT (nt : Nat) (tf ki he un wi va ht : Nat → Int32) : Prop := ∀ t : Nat, t < nt → ki t = tf (7 * t + 0) ∧ he t = tf (7 * t + 1) ∧ un t = tf (7 * t + 2) ∧ wi t = tf (7 * t + 3) ∧ va t = tf (7 * t + 4) ∧ ht t = tf (7 * t + 6)
def rlC (nc : Nat) (cf ow li ho co bo : Nat → Int32) : Prop := ∀ c : Nat, c < nc → ow c = cf (5 * c + 0) ∧ li c = cf (5 * c + 1) ∧ ho c = cf (5 * c + 2) ∧ co c = cf (5 * c + 3) ∧ bo c = cf (5 * c + 4)
def rlP (np : Nat) (pf own po be : Nat → Int32) : Prop := ∀ p : Nat, p < np → own p = pf (3 * p + 0) ∧ po p = pf (3 * p + 1) ∧ be p = pf (3 * p + 2)
def rlQ (nq : Nat) (qf pt pr : Nat → Int32) : Prop := ∀ q : Nat, q < nq → pt q = qf (2 * q + 0) ∧ pr q = qf (2 * q + 1)
def rlL (nt : Nat) (plf pl : Nat → Int32) : Prop := ∀ t : Nat, t < nt → pl t = plf t
theorem eq_weight {nt : Nat} (hnt : nt ≤ 12) {tf plf ki he un wi va ht pl : Nat → Int32} {p : Int32} (hT : rlT nt tf ki he un wi va ht) (hL : rlL nt plf pl) : s_X13_sumAt nt ki he wi ht pl p 1 = wiS nt tf plf p := by
  refine sm_eq hnt hL (val := he) (fun t h a => ?_) (fun t h => ?_) nt (Nat.le_refl _)
  · unfold s_X13_sumAt_5s
    simp only [show ¬ (1 : Int32) = 0 from by decide, if_true, if_false, ite_self]
  · rw [ta3 7 1 rfl 7 1 rfl rfl (by omega) (by decide), (hT t h).2.1]
theorem eq_sizes {nt : Nat} (hnt : nt ≤ 12) {tf plf ki he un wi va ht pl : Nat → Int32} {p : Int32} (hT : rlT nt tf ki he un wi va ht) (hL : rlL nt plf pl) : s_X13_sumAt nt ki he wi ht pl p 2 = siS nt tf plf p := by
  refine sm_eq hnt hL (val := wi) (fun t h a => ?_) (fun t h => ?_) nt (Nat.le_refl _)
  · unfold s_X13_sumAt_5s
    simp only [show ¬ (2 : Int32) = 0 from by decide, show ¬ (2 : Int32) = 1 from by decide, if_true, if_false, ite_self]
  · rw [ta3 7 3 rfl 7 3 rfl rfl (by omega) (by decide), (hT t h).2.2.2.1]
theorem eq_over {nt nc c : Nat} (hnt : nt ≤ 12) {tf cf plf ki he un wi va ht pl ow li ho co bo : Nat → Int32} (hT : rlT nt tf ki he un wi va ht) (hC : rlC nc cf ow li ho co bo) (hL : rlL nt plf pl) (hc : c < nc) (hnc : nc ≤ 5) : imax 0 (s_X13_sumAt nt ki he wi ht pl (nI c) 1 - li c) = ovS nt cf tf plf (nI c) := by
  unfold ovS
  rw [eq_weight hnt hT hL, ta3 5 1 rfl 5 1 rfl rfl (by omega) (by decide), (hC c hc).2.1]
theorem eq_price {nt nq t : Nat} {tf qf ki he un wi va ht pt pr : Nat → Int32} (hnt : nt ≤ 12) (hnq : nq ≤ 6) (hT : rlT nt tf ki he un wi va ht) (hQ : rlQ nq qf pt pr) (ht9 : t < nt) : s_X13_priceOf nq he pt pr (nI t) = prS qf (tat 84 tf (nI t * 7 + 1)) nq 0 := by
  have key : ∀ r i : Nat, i + r = nq → s_X13_priceOf_2 he pt pr (nI t) r i = prS qf (tat 84 tf (nI t * 7 + 1)) r i := by
    intro r
    induction r with
    | zero => intro i _; rfl
    | succ r ih =>
      intro i hi
      rw [s_X13_priceOf_2, prS, ih (i + 1) (by omega), nI_clamp (by omega), ta3 7 1 rfl 7 1 rfl rfl (by omega) (by decide), (hT t ht9).2.1, (hQ i (by omega)).1, (hQ i (by omega)).2, ta3 2 0 rfl 2 0 rfl rfl (by omega) (by decide), ta3 2 1 rfl 2 1 rfl rfl (by omega) (by decide)]
  exact key nq 0 (Nat.zero_add _)
theorem thF_at {h : Nat} {f : Nat → Int32} {q : Nat} (hq : q < h) : thF h f h q = f (h + q) := if_pos hq
/-- behind takeOver -/
theorem to_T {a : Nat} {tf ki he un wi va pl ht : Nat → Int32} (ha : a ≤ 12) (h : cqT a tf ki he un wi va pl ht) : rlT a tf (thF 12 ki 12) (thF 12 he 12) (thF 12 un 12) (thF 12 wi 12) (thF 12 va 12) (thF 12 ht 12) ∧ ∀ t : Nat, t < a → thF 12 pl 12 t = tf (7 * t + 5) := by
  refine ⟨fun t ht9 => ?_, fun t ht9 => ?_⟩
  · have hq : t < 12 := by omega
    rw [thF_at hq, thF_at hq, thF_at hq, thF_at hq, thF_at hq, thF_at hq]
    obtain ⟨h1, h2, h3, h4, h5, h6, h7⟩ := h t ht9
    exact ⟨h1, h2, h3, h4, h5, h7⟩
  · rw [thF_at (show t < 12 by omega)]
    exact (h t ht9).2.2.2.2.2.1
theorem to_C {a : Nat} {cf ow li ho co bo : Nat → Int32} (ha : a ≤ 5) (h : cqC a cf ow li ho co bo) : rlC a cf (thF 5 ow 5) (thF 5 li 5) (thF 5 ho 5) (thF 5 co 5) (thF 5 bo 5) := by
  intro c hc
  have hq : c < 5 := by omega
  rw [thF_at hq, thF_at hq, thF_at hq, thF_at hq, thF_at hq]
  exact h c hc
theorem to_P {a : Nat} {pf own po be : Nat → Int32} (ha : a ≤ 4) (h : cqP a pf own po be) : rlP a pf (thF 4 own 4) (thF 4 po 4) (thF 4 be 4) := by
  intro c hc
  have hq : c < 4 := by omega
  rw [thF_at hq, thF_at hq, thF_at hq]
  exact h c hc
theorem to_Q {a : Nat} {qf pt pr : Nat → Int32} (ha : a ≤ 6) (h : cqQ a qf pt pr) : rlQ a qf (thF 6 pt 6) (thF 6 pr 6) := by
  intro c hc
  have hq : c < 6 := by omega
  rw [thF_at hq, thF_at hq]
  exact h c hc
/-- the bits of what is at a place: the reference's sum is the class's set -/
theorem eq_bits {nt : Nat} (hnt : nt ≤ 12) {plf ki he wi ht pl : Nat → Int32} {p : Int32} (hL : rlL nt plf pl) : ∀ n : Nat, n ≤ nt → s_X13_sumAt_5 ki he wi ht pl p 5 0 n = taS plf p n ∧ ∃ k : Nat, k < 2 ^ n ∧ taS plf p n = nI k
  | 0, _ => ⟨rfl, 0, by decide, rfl⟩
  | n + 1, h => by
    obtain ⟨ih, k, hk, e⟩ := eq_bits hnt (ki := ki) (he := he) (wi := wi) (ht := ht) (p := p) hL n (by omega)
    have hs : ∀ a : Int32, s_X13_sumAt_5s ki he wi ht pl p 5 n a = if pl n = p then a + (1 <<< (nI n &&& 31)) else a := by
      intro a
      unfold s_X13_sumAt_5s
      simp only [show ¬ (5 : Int32) = 0 from by decide, show ¬ (5 : Int32) = 1 from by decide, show ¬ (5 : Int32) = 2 from by decide, show ¬ (5 : Int32) = 3 from by decide, show ¬ (5 : Int32) = 4 from by decide, if_false, ite_self]
    rw [s_X13_sumAt_5, hs, ih, taS, tat_in (by omega) (by decide), ← hL n (by omega)]
    by_cases c : pl n = p
    · rw [if_pos c, if_pos c, (sh_12 n (by omega)).1, e, nI_or, nI_add, Nat.or_comm]
      have e2 : k + 2 ^ n = 2 ^ n ||| k := by
        have := Nat.two_pow_add_eq_or_of_lt hk 1
        rw [Nat.mul_one] at this
        rw [← this, Nat.add_comm]
      rw [← e2]
      exact ⟨rfl, k + 2 ^ n, by rw [Nat.pow_succ]; omega, rfl⟩
    · rw [if_neg c, if_neg c]
      exact ⟨rfl, k, by rw [Nat.pow_succ]; omega, e⟩
end
