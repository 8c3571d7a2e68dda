/-! a line, in the class and in the reference: one *-/
noncomputable section
theorem gn_ok {en : Nat} {bf : Nat → Int32} {x : Nat} {z1 z2 : Int32} (h : ¬ s_X4_isNumber en x bf z1 z2 = 0) : gX en bf 0 x z1 z2 = nX en bf x ∧ gF en bf 0 x z1 z2 = 0 ∧ gV en bf 0 x z1 z2 = nmX en bf x := by
  rw [gX_d, gF_d, gV_d]
  unfold nxR nfR nvR
  simp [h]
theorem gn_bad {en : Nat} {bf : Nat → Int32} {x : Nat} {z1 z2 : Int32} (h : s_X4_isNumber en x bf z1 z2 = 0) : gX en bf 0 x z1 z2 = x ∧ gF en bf 0 x z1 z2 = fkN en bf x ∧ gV en bf 0 x z1 z2 = 0 := by
  rw [gX_d, gF_d, gV_d]
  unfold nxR nfR nvR
  simp [h]
theorem gn_f {en : Nat} {bf : Nat → Int32} {x : Nat} {f z1 z2 : Int32} (h : ¬ f = 0) : gX en bf f x z1 z2 = x ∧ gF en bf f x z1 z2 = f ∧ gV en bf f x z1 z2 = 0 := by
  rw [gX_d, gF_d, gV_d]
  simp [h]
theorem gn_k {en : Nat} {bf : Nat → Int32} (x : Nat) {y : Nat} {z1 z2 : Int32} : gX en bf (fkN en bf y) x z1 z2 = x ∧ gF en bf (fkN en bf y) x z1 z2 = fkN en bf y ∧ gV en bf (fkN en bf y) x z1 z2 = 0 := gn_f (fkN_0 _ _ _)
theorem gn_t {en : Nat} {bf : Nat → Int32} (x : Nat) {y : Nat} {z1 z2 : Int32} : gX en bf (fkT en y bf) x z1 z2 = x ∧ gF en bf (fkT en y bf) x z1 z2 = fkT en y bf ∧ gV en bf (fkT en y bf) x z1 z2 = 0 := gn_f (fkT_0 _ _ _)
theorem ts3 {K a : Nat} {f : Nat → Int32} {z v : Int32} (c r : Nat) (hz : z = nI a) (C R : Int32) (hC : C = nI c) (hR : R = nI r) (h : c * a + r < K) (hK : K < 2 ^ 31) : tset K f (z * C + R) v = upd f (c * a + r) v := by
  rw [hz, hC, hR, pk_mul, nI_add, Nat.mul_comm a c, tset_in h hK]
theorem ta3 {K a : Nat} {f : Nat → Int32} {z : Int32} (c r : Nat) (hz : z = nI a) (C R : Int32) (hC : C = nI c) (hR : R = nI r) (h : c * a + r < K) (hK : K < 2 ^ 31) : tat K f (z * C + R) = f (c * a + r) := by
  rw [hz, hC, hR, pk_mul, nI_add, Nat.mul_comm a c, tat_in h hK]
def cqP (a : Nat) (pf own po be : Nat → Int32) : Prop := ∀ p : Nat, p < a → own (4 + p) = pf (3 * p + 0) ∧ po (4 + p) = pf (3 * p + 1) ∧ be (4 + p) = pf (3 * p + 2)
def cqC (a : Nat) (cf ow li ho co bo : Nat → Int32) : Prop := ∀ c : Nat, c < a → ow (5 + c) = cf (5 * c + 0) ∧ li (5 + c) = cf (5 * c + 1) ∧ ho (5 + c) = cf (5 * c + 2) ∧ co (5 + c) = cf (5 * c + 3) ∧ bo (5 + c) = cf (5 * c + 4)
def cqT (a : Nat) (tf ki he un wi va pl ht : Nat → Int32) : Prop := ∀ t : Nat, t < a → ki (12 + t) = tf (7 * t + 0) ∧ he (12 + t) = tf (7 * t + 1) ∧ un (12 + t) = tf (7 * t + 2) ∧ wi (12 + t) = tf (7 * t + 3) ∧ va (12 + t) = tf (7 * t + 4) ∧ pl (12 + t) = tf (7 * t + 5) ∧ ht (12 + t) = tf (7 * t + 6)
def cqQ (a : Nat) (qf pt pr : Nat → Int32) : Prop := ∀ q : Nat, q < a → pt (6 + q) = qf (2 * q + 0) ∧ pr (6 + q) = qf (2 * q + 1)
/-- a PERSON -/
theorem ln_person {en x a : Nat} {bf hv pf own po be : Nat → Int32} (h5 : hv 5 = nI a) (ha : a < 4) (hP : cqP a pf own po be) :
    gX en bf (gF en bf (gF en bf 0 (nX en bf x) 1 300) (gX en bf 0 (nX en bf x) 1 300) 0 9) (gX en bf (gF en bf 0 (nX en bf x) 1 300) (gX en bf 0 (nX en bf x) 1 300) 0 9) 0 30 = s_X4_readPerson_0_4 en x bf hv
    ∧ gF en bf (gF en bf (gF en bf 0 (nX en bf x) 1 300) (gX en bf 0 (nX en bf x) 1 300) 0 9) (gX en bf (gF en bf 0 (nX en bf x) 1 300) (gX en bf 0 (nX en bf x) 1 300) 0 9) 0 30 = s_X4_readPerson_1_2 en x 0 bf hv
    ∧ s_X4_readPerson_2_1 en x bf hv = upd hv 5 (hv 5 + 1)
    ∧ (s_X4_readPerson_1_2 en x 0 bf hv = 0 → cqP (a + 1) (s_X4_readPerson_3_f en x bf hv pf) (upd own (4 + a) (gV en bf 0 (nX en bf x) 1 300)) (upd po (4 + a) (gV en bf (gF en bf 0 (nX en bf x) 1 300) (gX en bf 0 (nX en bf x) 1 300) 0 9)) (upd be (4 + a) (gV en bf (gF en bf (gF en bf 0 (nX en bf x) 1 300) (gX en bf 0 (nX en bf x) 1 300) 0 9) (gX en bf (gF en bf 0 (nX en bf x) 1 300) (gX en bf 0 (nX en bf x) 1 300) 0 9) 0 30))) := by
  have hlt : hv 5 < 4 := by rw [h5]; exact nI_lt (b := 4) ha (by decide)
  have k0 := fkN_0 en bf
  unfold s_X4_readPerson_0_4 s_X4_readPerson_1_2 s_X4_readPerson_2_1 s_X4_readPerson_3_f
  simp only [if_pos hlt]
  by_cases h1 : s_X4_isNumber en (nX en bf x) bf 1 300 = 0
  · simp only [if_pos h1, (gn_bad h1).1, (gn_bad h1).2.1, (gn_k _).1, (gn_k _).2.1]
    exact ⟨trivial, trivial, trivial, fun q => absurd q (k0 _)⟩
  simp only [if_neg h1, (gn_ok h1).1, (gn_ok h1).2.1, (gn_ok h1).2.2]
  by_cases h2 : s_X4_isNumber en (nX en bf (nX en bf x)) bf 0 9 = 0
  · simp only [if_pos h2, (gn_bad h2).1, (gn_bad h2).2.1, (gn_k _).1, (gn_k _).2.1]
    exact ⟨trivial, trivial, trivial, fun q => absurd q (k0 _)⟩
  simp only [if_neg h2, (gn_ok h2).1, (gn_ok h2).2.1, (gn_ok h2).2.2]
  by_cases h3 : s_X4_isNumber en (nX en bf (nX en bf (nX en bf x))) bf 0 30 = 0
  · simp only [if_pos h3, (gn_bad h3).1, (gn_bad h3).2.1]
    exact ⟨trivial, trivial, trivial, fun q => absurd q (k0 _)⟩
  simp only [if_neg h3, (gn_ok h3).1, (gn_ok h3).2.1, (gn_ok h3).2.2]
  refine ⟨trivial, trivial, trivial, fun _ => ?_⟩
  rw [ts3 3 0 h5 3 0 rfl rfl (by omega) (by decide), ts3 3 1 h5 3 1 rfl rfl (by omega) (by decide), ts3 3 2 h5 3 2 rfl rfl (by omega) (by decide)]
  intro p hp
  refine ⟨?_, ?_, ?_⟩ <;> simp only [upd] <;> (repeat' split) <;> first | rfl | (exfalso; omega) | exact (hP p (by omega)).1 | exact (hP p (by omega)).2.1 | exact (hP p (by omega)).2.2
/-- a CASE -/
theorem ln_case {en x a : Nat} {bf hv to cf ow li ho co bo : Nat → Int32} (h6 : hv 6 = nI a) (ha : a < 5) (h7 : to 7 = hv 5) (hC : cqC a cf ow li ho co bo) :
    s_X13_readCaseR_6_mx en x to bf = s_X4_readCase_0_4 en x bf hv
    ∧ s_X13_readCaseR_6_mf en x to bf = s_X4_readCase_1_2 en x 0 bf hv
    ∧ s_X4_readCase_2_1 en x bf hv = upd hv 6 (hv 6 + 1)
    ∧ (s_X4_readCase_1_2 en x 0 bf hv = 0 → cqC (a + 1) (s_X4_readCase_3_f en x bf hv cf) (upd ow (5 + a) (oV en bf 0 (nX en bf x) (to 7))) (s_X13_readCaseR_2_f en x to bf li a) (s_X13_readCaseR_3_f en x to bf ho a) (s_X13_readCaseR_4_f en x to bf co a) (s_X13_readCaseR_5_f en x to bf bo a)) := by
  have hlt : hv 6 < 5 := by rw [h6]; exact nI_lt (b := 5) ha (by decide)
  have k0 := fkN_0 en bf
  have k1 := fkT_0 en
  unfold s_X4_readCase_0_4 s_X4_readCase_1_2 s_X4_readCase_2_1 s_X4_readCase_3_f s_X13_readCaseR_6_mx s_X13_readCaseR_6_mf s_X13_readCaseR_2_f s_X13_readCaseR_3_f s_X13_readCaseR_4_f s_X13_readCaseR_5_f
  simp only [if_pos hlt, oF_d, oV_d, h7, if_true]
  by_cases h0 : s_X4_isTold en (nX en bf x) bf (hv 5) = 0
  · simp only [if_pos h0, if_neg (k1 (nX en bf x) bf), (gn_t _).1, (gn_t _).2.1, (gn_t _).2.2, wdR, if_true]
    exact ⟨trivial, trivial, trivial, fun q => absurd q (k1 _ _)⟩
  simp only [if_neg h0, if_true]
  by_cases h1 : s_X4_isNumber en (nX en bf (nX en bf x)) bf 0 200 = 0
  · simp only [if_pos h1, (gn_bad h1).1, (gn_bad h1).2.1, (gn_k _).1, (gn_k _).2.1, (gn_k _).2.2, wdR, if_neg (k0 _), if_true]
    exact ⟨trivial, trivial, trivial, fun q => absurd q (k0 _)⟩
  simp only [if_neg h1, (gn_ok h1).1, (gn_ok h1).2.1, (gn_ok h1).2.2]
  by_cases h2 : s_X4_isNumber en (nX en bf (nX en bf (nX en bf x))) bf 0 60 = 0
  · simp only [if_pos h2, (gn_bad h2).1, (gn_bad h2).2.1, (gn_k _).1, (gn_k _).2.1, (gn_k _).2.2, wdR, if_neg (k0 _), if_true]
    exact ⟨trivial, trivial, trivial, fun q => absurd q (k0 _)⟩
  simp only [if_neg h2, (gn_ok h2).1, (gn_ok h2).2.1, (gn_ok h2).2.2]
  by_cases h3 : s_X4_isNumber en (nX en bf (nX en bf (nX en bf (nX en bf x)))) bf 0 99 = 0
  · simp only [if_pos h3, (gn_bad h3).1, (gn_bad h3).2.1, wdR, if_neg (k0 _), if_true]
    exact ⟨trivial, trivial, trivial, fun q => absurd q (k0 _)⟩
  simp only [if_neg h3, (gn_ok h3).1, (gn_ok h3).2.1, (gn_ok h3).2.2, wdR, if_true]
  by_cases h4 : wX en bf (nX en bf (nX en bf (nX en bf (nX en bf (nX en bf x))))) = 3
  all_goals
    first | simp only [if_pos h4] | simp only [if_neg h4]
    simp only [show ¬ (1 : Int32) = 0 from by decide, if_true, if_false]
    refine ⟨trivial, trivial, trivial, fun _ => ?_⟩
    rw [ts3 5 0 h6 5 0 rfl rfl (by omega) (by decide), ts3 5 1 h6 5 1 rfl rfl (by omega) (by decide), ts3 5 2 h6 5 2 rfl rfl (by omega) (by decide), ts3 5 3 h6 5 3 rfl rfl (by omega) (by decide), ts3 5 4 h6 5 4 rfl rfl (by omega) (by decide)]
    intro p hp
    refine ⟨?_, ?_, ?_, ?_, ?_⟩ <;> simp only [upd] <;> (repeat' split) <;> first | rfl | (exfalso; omega) | exact (hC p (by omega)).1 | exact (hC p (by omega)).2.1 | exact (hC p (by omega)).2.2.1 | exact (hC p (by omega)).2.2.2.1 | exact (hC p (by omega)).2.2.2.2
/-- a POST -/
theorem ln_post {en x a : Nat} {bf hv qf pt pr : Nat → Int32} (h8 : hv 8 = nI a) (ha : a < 6) (hQ : cqQ a qf pt pr) :
    s_X13_readPostR_3_mx en x bf pt a = s_X4_readPost_0_4 en x bf hv qf
    ∧ s_X13_readPostR_3_mf en x bf pt a = s_X4_readPost_1_2 en x 0 bf hv qf
    ∧ s_X4_readPost_2_1 en x bf hv qf = upd hv 8 (hv 8 + 1)
    ∧ (s_X4_readPost_1_2 en x 0 bf hv qf = 0 → cqQ (a + 1) (s_X4_readPost_3_f en x bf hv qf) (upd pt (6 + a) (gV en bf 0 (nX en bf x) 1 99)) (s_X13_readPostR_2_f en x bf pt pr a)) := by
  have hlt : hv 8 < 6 := by rw [h8]; exact nI_lt (b := 6) ha (by decide)
  have k0 := fkN_0 en bf
  unfold s_X4_readPost_0_4 s_X4_readPost_1_2 s_X4_readPost_2_1 s_X4_readPost_3_f s_X13_readPostR_3_mx s_X13_readPostR_3_mf s_X13_readPostR_2_f
  simp only [if_pos hlt]
  by_cases h1 : s_X4_isNumber en (nX en bf x) bf 1 99 = 0
  · simp only [if_pos h1, (gn_bad h1).1, (gn_bad h1).2.1, (gn_bad h1).2.2, (gn_k _).1, (gn_k _).2.1, (gn_k _).2.2, if_neg (k0 _)]
    exact ⟨trivial, trivial, trivial, fun q => absurd q (k0 _)⟩
  simp only [if_neg h1, (gn_ok h1).1, (gn_ok h1).2.1, (gn_ok h1).2.2, if_true]
  have e0 : (nI (6 + a) ≤ 6) ↔ a = 0 := by
    have := nI_leI (a := 6 + a) (b := 6) (by omega) (by decide)
    constructor
    · intro q; have := this.mp q; omega
    · intro q; exact this.mpr (by omega)
  have hm : (if nI (6 + a) ≤ 6 then (1 : Int32) else if upd pt (6 + a) (nmX en bf (nX en bf x)) (nI (6 + a) - 1).toNatClampNeg < upd pt (6 + a) (nmX en bf (nX en bf x)) (6 + a) then 1 else 0) = s_X4_isMoreThanAhead en (nX en bf x) bf qf (hv 8) := by
    unfold s_X4_isMoreThanAhead
    by_cases ha0 : a = 0
    · rw [if_pos (e0.mpr ha0), if_pos (by rw [h8, ha0]; rfl)]
    · rw [if_neg (fun q => ha0 (e0.mp q)), if_neg (show ¬ hv 8 = 0 by rw [h8]; exact nI_ne0 (by omega) (by omega))]
      have e1 : (nI (6 + a) - 1).toNatClampNeg = 6 + (a - 1) := by rw [show 6 + a = (6 + (a - 1)) + 1 by omega, nI_pred, nI_clamp (by omega)]
      have e2 : hv 8 - 1 = nI (a - 1) := by rw [h8]; obtain ⟨b, rfl⟩ : ∃ b, a = b + 1 := ⟨a - 1, by omega⟩; exact nI_pred b
      rw [e1, ta3 2 0 e2 2 0 rfl rfl (by omega) (by decide), ← (hQ (a - 1) (by omega)).1]
      simp only [upd]
      rw [if_neg (show ¬ 6 + (a - 1) = 6 + a by omega), if_pos trivial]
  by_cases h2 : s_X4_isMoreThanAhead en (nX en bf x) bf qf (hv 8) = 0
  · rw [h2] at hm
    by_cases c1 : nI (6 + a) ≤ 6
    · rw [if_pos c1] at hm; exact absurd hm (by decide)
    · rw [if_neg c1] at hm
      by_cases c2 : upd pt (6 + a) (nmX en bf (nX en bf x)) (nI (6 + a) - 1).toNatClampNeg < upd pt (6 + a) (nmX en bf (nX en bf x)) (6 + a)
      · rw [if_pos c2] at hm; exact absurd hm (by decide)
      · simp only [if_pos h2, if_neg c1, if_neg c2, (gn_f (show ¬ (4 : Int32) = 0 by decide)).1, (gn_f (show ¬ (4 : Int32) = 0 by decide)).2.1]
        exact ⟨trivial, trivial, trivial, fun q => absurd q (by decide)⟩
  · simp only [if_neg h2]
    by_cases h3 : s_X4_isNumber en (nX en bf (nX en bf x)) bf 0 999 = 0
    · simp only [if_pos h3, (gn_bad h3).1, (gn_bad h3).2.1]
      refine ⟨?_, ?_, trivial, fun q => absurd q (k0 _)⟩
      · split
        · rfl
        · split
          · rfl
          · rename_i c1 c2; rw [if_neg c1, if_neg c2] at hm; exact absurd hm.symm h2
      · split
        · rfl
        · split
          · rfl
          · rename_i c1 c2; rw [if_neg c1, if_neg c2] at hm; exact absurd hm.symm h2
    · simp only [if_neg h3, (gn_ok h3).1, (gn_ok h3).2.1, (gn_ok h3).2.2]
      refine ⟨?_, ?_, trivial, fun _ => ?_⟩
      · split
        · rfl
        · split
          · rfl
          · rename_i c1 c2; rw [if_neg c1, if_neg c2] at hm; exact absurd hm.symm h2
      · split
        · rfl
        · split
          · rfl
          · rename_i c1 c2; rw [if_neg c1, if_neg c2] at hm; exact absurd hm.symm h2
      · have e3 : (if nI (6 + a) ≤ 6 then upd pr (6 + a) (nmX en bf (nX en bf (nX en bf x))) else if upd pt (6 + a) (nmX en bf (nX en bf x)) (nI (6 + a) - 1).toNatClampNeg < upd pt (6 + a) (nmX en bf (nX en bf x)) (6 + a) then upd pr (6 + a) (nmX en bf (nX en bf (nX en bf x))) else upd pr (6 + a) (gV en bf 4 (nX en bf x) 0 999)) = upd pr (6 + a) (nmX en bf (nX en bf (nX en bf x))) := by
          split
          · rfl
          · split
            · rfl
            · rename_i c1 c2; rw [if_neg c1, if_neg c2] at hm; exact absurd hm.symm h2
        rw [e3, ts3 2 0 h8 2 0 rfl rfl (by omega) (by decide), ts3 2 1 h8 2 1 rfl rfl (by omega) (by decide)]
        intro p hp
        refine ⟨?_, ?_⟩ <;> simp only [upd] <;> (repeat' split) <;> first | rfl | (exfalso; omega) | exact (hQ p (by omega)).1 | exact (hQ p (by omega)).2
end
