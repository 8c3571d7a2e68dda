/-! what is kept of the shifts, undone, seen and forgotten: one in both -/
noncomputable section
/-- the acts that are kept -/
def rlA (nt na : Nat) (af tn pn on : Nat → Int32) : Prop := ∀ i : Nat, i < na → tn i = af (3 * i + 0) ∧ pn i = af (3 * i + 1) ∧ on i = af (3 * i + 2) ∧ (∃ t : Nat, t < nt ∧ tn i = nI t) ∧ ∃ k : Nat, k ≤ 22 ∧ pn i = nI k
/-- where things may be -/
def okL (nt : Nat) (pl : Nat → Int32) : Prop := ∀ t : Nat, t < nt → ∃ k : Nat, k ≤ 22 ∧ pl t = nI k
def okA (tn : Nat → Int32) : Prop := ∀ i : Nat, i < 40 → ∃ t : Nat, t < 12 ∧ tn i = nI t
def rlS2 (nk : Nat) (sf sc sw : Nat → Int32) : Prop := ∀ i : Nat, i < nk → sc i = sf (2 * i + 0) ∧ sw i = sf (2 * i + 1)
def rl3 (st tf2 : Nat → Int32) : Prop := ∀ i : Nat, i < 3 → st i = tf2 i
theorem fg_c (af : Nat → Int32) : ∀ n : Nat, n ≤ 117 → ∀ j : Nat, s_X1_forgetFirstAct_2 af n j = if j < n then af (j + 3) else af j
  | 0, _, j => by rw [if_neg (Nat.not_lt_zero _)]; rfl
  | n + 1, h, j => by
    have ih := fg_c af n (by omega)
    rw [s_X1_forgetFirstAct_2]
    unfold s_X1_forgetFirstAct_2s
    have e3 : nI (n + 3) - 3 = nI n := by rw [show (3 : Int32) = nI 3 from rfl, pk_sub (by omega)]; rfl
    rw [e3, tset_in (by omega) (by decide), tat_in (by omega) (by decide), ih (n + 3), if_neg (by omega)]
    by_cases e : j = n
    · subst e; rw [pk_us, if_pos (by omega)]
    · rw [pk_un e, ih j]
      by_cases q : j < n
      · rw [if_pos q, if_pos (by omega)]
      · rw [if_neg q, if_neg (by omega)]
theorem kp_m (z0 z1 z2 : Nat → Int32) : ∀ n : Nat, n ≤ 39 → ∀ j : Nat, (s_X13_keep_11 z0 z1 z2 n).1 j = (if j < n then z0 (j + 1) else z0 j) ∧ (s_X13_keep_11 z0 z1 z2 n).2.1 j = (if j < n then z1 (j + 1) else z1 j) ∧ (s_X13_keep_11 z0 z1 z2 n).2.2 j = (if j < n then z2 (j + 1) else z2 j)
  | 0, _, j => by simp only [if_neg (Nat.not_lt_zero _)]; exact ⟨rfl, rfl, rfl⟩
  | n + 1, h, j => by
    have ih := kp_m z0 z1 z2 n (by omega)
    rw [s_X13_keep_11]
    unfold s_X13_keep_11s
    have e : (nI (n + 1) - 1).toNatClampNeg = n := by rw [nI_pred, nI_clamp (by omega)]
    rw [e]
    obtain ⟨q0, q1, q2⟩ := ih (n + 1)
    obtain ⟨p0, p1, p2⟩ := ih j
    rw [if_neg (by omega)] at q0 q1 q2
    by_cases c : j = n
    · subst c
      simp only [pk_us, if_pos (show j < j + 1 by omega)]
      exact ⟨q0, q1, q2⟩
    · simp only [pk_un c]
      rw [p0, p1, p2]
      by_cases q : j < n
      · simp only [if_pos q, if_pos (show j < n + 1 by omega), and_self]
      · simp only [if_neg q, if_neg (show ¬ j < n + 1 by omega), and_self]
theorem row3' (g : Nat → Int32) (a : Nat) (ha : a < 40) (v0 v1 v2 : Int32) : tset 120 (tset 120 (tset 120 g (nI a * 3 + 0) v0) (nI a * 3 + 1) v1) (nI a * 3 + 2) v2 = upd (upd (upd g (3 * a + 0) v0) (3 * a + 1) v1) (3 * a + 2) v2 := by
  rw [ts3 3 0 rfl 3 0 rfl rfl (by omega) (by decide), ts3 3 1 rfl 3 1 rfl rfl (by omega) (by decide), ts3 3 2 rfl 3 2 rfl rfl (by omega) (by decide)]
theorem eq_keep {nt na t : Nat} {mv pl af tn pn on : Nat → Int32} {p : Int32} (hna : na ≤ 40) (ka : mv 37 = nI na) (h : rlA nt na af tn pn on) (ho : okA tn) (ht : t < nt) (hnt : nt ≤ 12) (hp : pl t = p) (hpk : ∃ k : Nat, k ≤ 22 ∧ p = nI k) :
    s_X13_keep_0_1 mv 37 = s_X1_keepAct_0_1 (nI na) ∧ (∃ na2 : Nat, na2 ≤ 40 ∧ s_X1_keepAct_0_1 (nI na) = nI na2 ∧ rlA nt na2 (s_X1_keepAct_1_f (nI na) af (nI t) p (mv 36)) (s_X13_keep_1_f mv tn pn on (nI t)) (s_X13_keep_2_f mv pl tn pn on (nI t)) (s_X13_keep_3_f mv tn pn on)) ∧ okA (s_X13_keep_1_f mv tn pn on (nI t)) ∧ ∀ j : Nat, j ≠ 37 → s_X13_keep_0_1 mv j = mv j := by
  have cl := nI_clamp (n := t) (by omega)
  unfold s_X13_keep_0_1 s_X1_keepAct_0_1 s_X1_keepAct_1_f s_X13_keep_1_f s_X13_keep_2_f s_X13_keep_3_f
  rw [ka, cl, hp]
  by_cases c : na = 40
  · subst c
    have e40 : nI 40 = 40 := rfl
    simp only [e40, if_true]
    have e39 : (40 : Int32) - 1 = nI 39 := by decide
    rw [e39, nI_1, row3' _ 39 (by decide), nI_clamp (by decide)]
    have km := kp_m tn pn on 39 (by omega)
    obtain ⟨r, r0, r1, r2⟩ := row3 (s_X1_forgetFirstAct_2 af (120 - 3)) 39 (nI t) p (mv 36)
    have fg := fg_c af 117 (by omega)
    refine ⟨pk_us, ⟨40, by omega, rfl, fun i hi => ?_⟩, fun i hi => ?_, fun j hj => by rw [pk_un hj, pk_un hj]⟩
    · by_cases q : i = 39
      · subst q
        rw [pk_us, pk_us, pk_us, r0, r1, r2]
        exact ⟨rfl, rfl, rfl, ⟨t, ht, rfl⟩, hpk⟩
      · rw [pk_un q, pk_un q, pk_un q, r _ (by omega), r _ (by omega), r _ (by omega)]
        obtain ⟨m0, m1, m2⟩ := km i
        obtain ⟨a0, a1, a2, a3⟩ := h (i + 1) (by omega)
        rw [show 40 - 1 = 39 from rfl, show 120 - 3 = 117 from rfl, m0, m1, m2, fg, fg, fg, if_pos (by omega), if_pos (by omega), if_pos (by omega), if_pos (by omega), if_pos (by omega), if_pos (by omega)]
        exact ⟨a0, a1, a2, a3⟩
    · by_cases q : i = 39
      · subst q; rw [pk_us]; exact ⟨t, by omega, rfl⟩
      · rw [pk_un q, show 40 - 1 = 39 from rfl, (km i).1, if_pos (by omega)]
        exact ho (i + 1) (by omega)
  · have cn : ¬ nI na = 40 := fun q => c ((nI_eq (b := 40) (by omega) (by decide)).mp q)
    simp only [if_neg cn]
    rw [nI_1, nI_clamp (by omega), row3' _ na (by omega)]
    obtain ⟨r, r0, r1, r2⟩ := row3 af na (nI t) p (mv 36)
    refine ⟨pk_us, ⟨na + 1, by omega, rfl, fun i hi => ?_⟩, fun i hi => ?_, fun j hj => by rw [pk_un hj]⟩
    · by_cases q : i = na
      · subst q
        rw [pk_us, pk_us, pk_us, r0, r1, r2]
        exact ⟨rfl, rfl, rfl, ⟨t, ht, rfl⟩, hpk⟩
      · rw [pk_un q, pk_un q, pk_un q, r _ (by omega), r _ (by omega), r _ (by omega)]
        exact h i (by omega)
    · by_cases q : i = na
      · subst q; rw [pk_us]; exact ⟨t, by omega, rfl⟩
      · rw [pk_un q]; exact ho i hi
theorem eq_undo {nt na : Nat} {mv plf pl af tn pn on : Nat → Int32} (hna : na ≤ 40) (hnt : nt ≤ 12) (ka : mv 37 = nI na) (h : rlA nt na af tn pn on) (hL : rlL nt plf pl) (hK : okL nt pl) :
    s_X13_undo mv = s_X12_undo (nI na) ∧ s_X13_undo_1_1 mv on 2 = 0 ∧ s_X13_undo_1_1 mv on 36 = s_X12_undo_1_2 (nI na) (mv 36) af ∧ s_X13_undo_1_1 mv on 37 = s_X12_undo_0_1 (nI na) ∧ (∀ j : Nat, j ≠ 2 → j ≠ 36 → j ≠ 37 → s_X13_undo_1_1 mv on j = mv j) ∧ rlL nt (s_X12_undo_2_f (nI na) af plf) (s_X13_undo_0_f mv pl tn pn) ∧ okL nt (s_X13_undo_0_f mv pl tn pn) ∧ ∃ na2 : Nat, na2 ≤ na ∧ s_X12_undo_0_1 (nI na) = nI na2 := by
  unfold s_X13_undo s_X12_undo s_X13_undo_1_1 s_X12_undo_1_2 s_X12_undo_0_1 s_X12_undo_2_f s_X13_undo_0_f
  rw [ka]
  by_cases c : na = 0
  · subst c
    simp only [show nI 0 = 0 from rfl, if_true]
    exact ⟨trivial, pk_us, pk_un (by decide), (pk_un (by decide)).trans ka, fun j h1 _ _ => pk_un h1, hL, hK, 0, Nat.le_refl _, rfl⟩
  · have cn : ¬ nI na = 0 := nI_ne0 (by omega) (by omega)
    simp only [if_neg cn]
    obtain ⟨a0, a1, a2, ⟨t, ht, a3⟩, a4⟩ := h (na - 1) (by omega)
    have e1 : nI na - 1 = nI (na - 1) := nI_sub1 (by omega)
    rw [e1, nI_clamp (by omega), ta3 3 0 rfl 3 0 rfl rfl (by omega) (by decide), ta3 3 1 rfl 3 1 rfl rfl (by omega) (by decide), ta3 3 2 rfl 3 2 rfl rfl (by omega) (by decide), ← a0, ← a1, ← a2, a3, tset_in (by omega) (by decide), nI_clamp (by omega)]
    refine ⟨trivial, by rw [pk_un (by decide), pk_un (by decide), pk_us], pk_us, by rw [pk_un (by decide), pk_us], fun j h1 h2 h3 => by rw [pk_un h2, pk_un h3, pk_un h1], fun i hi => ?_, fun i hi => ?_, na - 1, by omega, rfl⟩
    · by_cases q : i = t
      · subst q; rw [pk_us, pk_us]
      · rw [pk_un q, pk_un q]; exact hL i hi
    · by_cases q : i = t
      · subst q; rw [pk_us]; exact a4
      · rw [pk_un q]; exact hK i hi
theorem rlA_le {nt na na2 : Nat} {af tn pn on : Nat → Int32} (h : rlA nt na af tn pn on) (hl : na2 ≤ na) : rlA nt na2 af tn pn on := fun i hi => h i (by omega)
theorem rlS2_le {na na2 : Nat} {af tn pn : Nat → Int32} (h : rlS2 na af tn pn) (hl : na2 ≤ na) : rlS2 na2 af tn pn := fun i hi => h i (by omega)
theorem eq_forget {nk : Nat} {mv : Nat → Int32} (hk : nk ≤ 6) (ks : mv 38 = nI nk) : s_X13_forget mv = s_X12_forget (nI nk) ∧ s_X13_forget_0_1 mv 2 = 0 ∧ s_X13_forget_0_1 mv 38 = s_X12_forget_0_2 (nI nk) ∧ (∀ j : Nat, j ≠ 2 → j ≠ 38 → s_X13_forget_0_1 mv j = mv j) ∧ ∃ nk2 : Nat, nk2 ≤ nk ∧ s_X12_forget_0_2 (nI nk) = nI nk2 := by
  unfold s_X13_forget s_X12_forget s_X13_forget_0_1 s_X12_forget_0_2
  rw [ks]
  by_cases c : nk = 0
  · subst c
    simp only [show nI 0 = 0 from rfl, if_true]
    exact ⟨trivial, pk_us, (pk_un (by decide)).trans ks, fun j h1 _ => pk_un h1, 0, Nat.le_refl _, rfl⟩
  · have cn : ¬ nI nk = 0 := nI_ne0 (by omega) (by omega)
    simp only [if_neg cn]
    exact ⟨trivial, by rw [pk_un (by decide), pk_us], pk_us, fun j h1 h2 => by rw [pk_un h2, pk_un h1], nk - 1, by omega, nI_sub1 (by omega)⟩
theorem rl3_up {st tf2 : Nat → Int32} (h : rl3 st tf2) {k : Nat} {K : Int32} (hK : K = nI k) (hk : k < 3) : rl3 (upd st K.toNatClampNeg (st K.toNatClampNeg + 1)) (tset 3 tf2 K (tat 3 tf2 K + 1)) := by
  intro i hi
  rw [hK, nI_clamp (by omega), tset_in hk (by decide), tat_in hk (by decide), h k hk]
  by_cases q : i = k
  · subst q; rw [pk_us, pk_us]
  · rw [pk_un q, pk_un q]; exact h i hi
/-- 0 to 999 -/
theorem is999 {y : Int32} : s_X13_isIn y.toInt64 0 999 = 0 ↔ ¬ ∃ c : Nat, c < 1000 ∧ y = nI c := by
  constructor
  · rintro h ⟨c, hc, rfl⟩
    unfold s_X13_isIn at h
    have e1 : ¬ (nI c).toInt64 < 0 := by
      rw [Int64.lt_iff_toInt_lt, Int32.toInt_toInt64, nI_toInt (by omega)]
      exact Int.not_lt.mpr (Int.natCast_nonneg c)
    have e2 : ¬ (999 : Int64) < (nI c).toInt64 := by
      rw [Int64.lt_iff_toInt_lt, Int32.toInt_toInt64, nI_toInt (by omega), show (999 : Int64).toInt = 999 by decide]
      omega
    rw [if_neg e1, if_neg e2] at h
    exact absurd h (by decide)
  · intro h
    unfold s_X13_isIn
    by_cases c1 : y.toInt64 < 0
    · rw [if_pos c1]
    · by_cases c2 : (999 : Int64) < y.toInt64
      · rw [if_neg c1, if_pos c2]
      · exfalso
        rw [Int64.lt_iff_toInt_lt, Int32.toInt_toInt64, show (0 : Int64).toInt = 0 by decide] at c1
        rw [Int64.lt_iff_toInt_lt, Int32.toInt_toInt64, show (999 : Int64).toInt = 999 by decide] at c2
        have c3 : ¬ y < 0 := fun q => c1 (by have := Int32.lt_iff_toInt_lt.mp q; rw [show (0 : Int32).toInt = 0 by decide] at this; exact this)
        obtain ⟨j, hj, e⟩ := nI_of c3
        rw [e, nI_toInt hj] at c2
        exact h ⟨j, by omega, e⟩
theorem row2' (g : Nat → Int32) (a : Nat) (ha : a < 6) (v0 v1 : Int32) : tset 12 (tset 12 g (nI a * 2 + 0) v0) (nI a * 2 + 1) v1 = upd (upd g (2 * a + 0) v0) (2 * a + 1) v1 := by
  rw [ts3 2 0 rfl 2 0 rfl rfl (by omega) (by decide), ts3 2 1 rfl 2 1 rfl rfl (by omega) (by decide)]
theorem eq_see {nc nk c : Nat} {mv to st tf2 sf sc sw : Nat → Int32} {y : Int32} (hk : nk ≤ 6) (ks : mv 38 = nI nk) (k1 : to 1 = nI nc) (hnc : nc ≤ 5) (hc : c < nc) (h : rlS2 nk sf sc sw) (h3 : rl3 st tf2) :
    s_X13_see mv to (nI c) y = s_X12_see (nI nk) y ∧ s_X13_see_3_1 mv to (nI c) y 2 = 0 ∧ s_X13_see_3_1 mv to (nI c) y 38 = s_X12_see_0_2 (nI nk) y ∧ (∀ j : Nat, j ≠ 2 → j ≠ 38 → s_X13_see_3_1 mv to (nI c) y j = mv j) ∧ rl3 (s_X13_see_0_f mv to st (nI c) y) (s_X12_see_2_f (nI nk) tf2 y) ∧ ∃ nk2 : Nat, nk2 ≤ 6 ∧ s_X12_see_0_2 (nI nk) y = nI nk2 ∧ rlS2 nk2 (s_X12_see_1_f (nI nk) sf (nI c) y) (s_X13_see_1_f mv to sc (nI c) y) (s_X13_see_2_f mv to sw (nI c) y) := by
  have hi := cs_in k1 (by omega) hc rfl
  have up := rl3_up h3 (k := 2) (K := 2) rfl (by decide)
  unfold s_X13_see s_X12_see s_X13_see_3_1 s_X12_see_0_2 s_X13_see_0_f s_X12_see_2_f s_X12_see_1_f s_X13_see_1_f s_X13_see_2_f s_X13_refuse
  simp only [if_neg hi]
  rw [ks]
  by_cases c6 : nk = 6
  · subst c6
    simp only [show nI 6 = 6 from rfl, if_true, if_pos (show (6 : Int32) ≤ 6 by decide)]
    exact ⟨trivial, pk_us, (pk_un (by decide)).trans ks, fun j h1 _ => pk_un h1, up, 6, by decide, rfl, h⟩
  · have n6 : ¬ nI nk = 6 := fun q => c6 ((nI_eq (b := 6) (by omega) (by decide)).mp q)
    have l6 : ¬ 6 ≤ nI nk := fun q => c6 (by have := (nI_leI (a := 6) (by decide) (by omega)).mp q; omega)
    simp only [if_neg n6, if_neg l6]
    by_cases q : s_X13_isIn y.toInt64 0 999 = 0
    · simp only [if_pos q]
      have q2 := is999.mp q
      by_cases y0 : y < 0
      · simp only [if_pos y0]
        exact ⟨trivial, pk_us, (pk_un (by decide)).trans ks, fun j h1 _ => pk_un h1, up, nk, by omega, rfl, h⟩
      · have y9 : ¬ y ≤ 999 := fun z => q2 (by
          obtain ⟨j, hj, e⟩ := nI_of y0
          rw [e] at z
          exact ⟨j, by have := (nI_leI (b := 999) hj (by decide)).mp z; omega, e⟩)
        simp only [if_neg y0, if_neg y9]
        exact ⟨trivial, pk_us, (pk_un (by decide)).trans ks, fun j h1 _ => pk_un h1, up, nk, by omega, rfl, h⟩
    · simp only [if_neg q]
      obtain ⟨j, hj, e⟩ := Classical.not_not.mp (fun z => q (is999.mpr z))
      have y0 : ¬ y < 0 := by rw [e]; exact nI_pos (by omega)
      have y9 : y ≤ 999 := by rw [e]; exact nI_le (b := 999) (by omega) (by decide)
      simp only [if_neg y0, if_pos y9]
      rw [row2' _ nk (by omega), nI_clamp (by omega)]
      obtain ⟨r, r0, r1⟩ := row2 sf nk (nI c) y
      refine ⟨trivial, by rw [pk_un (by decide), pk_us], pk_us, fun j h1 h2 => by rw [pk_un h2, pk_un h1], h3, nk + 1, by omega, nI_1 _, fun i hi => ?_⟩
      by_cases z : i = nk
      · subst z; rw [pk_us, pk_us, r0, r1]; exact ⟨rfl, rfl⟩
      · rw [pk_un z, pk_un z, r _ (by omega), r _ (by omega)]; exact h i (by omega)
end
