/-! what is read is well-formed (the class's tables) -/
noncomputable section
theorem nm_b {en x : Nat} {bf : Nat → Int32} {z1 z2 : Int32} {L H : Nat} (h1 : z1 = nI L) (h2 : z2 = nI H) (hH : H < 2 ^ 31) (hL : L < 2 ^ 31) (h : ¬ s_X4_isNumber en x bf z1 z2 = 0) : ∃ k : Nat, nmX en bf x = nI k ∧ L ≤ k ∧ k ≤ H := by
  unfold s_X4_isNumber at h
  by_cases c1 : kX en bf x = 2
  · rw [if_pos c1] at h
    by_cases c2 : nmX en bf x < z1
    · rw [if_pos c2] at h; exact absurd rfl h
    · rw [if_neg c2] at h
      by_cases c3 : nmX en bf x ≤ z2
      · have c4 : ¬ nmX en bf x < 0 := fun q => c2 (Int32.lt_of_lt_of_le q (by rw [h1]; exact nI_pos' hL))
        obtain ⟨k, hk, e⟩ := nI_of c4
        refine ⟨k, e, Nat.le_of_not_lt (fun q => c2 ?_), ?_⟩
        · rw [e, h1]; exact nI_lt q hL
        · rw [e, h2] at c3; exact (nI_leI hk hH).mp c3
      · rw [if_neg c3] at h; exact absurd rfl h
  · rw [if_neg c1] at h; exact absurd rfl h
theorem tl_b {en x a : Nat} {bf : Nat → Int32} {z : Int32} (hz : z = nI a) (ha : a < 2 ^ 31) (h : ¬ s_X4_isTold en x bf z = 0) : ∃ k : Nat, nmX en bf x = nI k ∧ k < a := by
  unfold s_X4_isTold at h
  by_cases c1 : s_X4_isNumber en x bf 0 9999 = 0
  · rw [if_pos c1] at h; exact absurd rfl h
  · rw [if_neg c1] at h
    obtain ⟨k, e, -, hk⟩ := nm_b (L := 0) (H := 9999) rfl rfl (by decide) (by decide) c1
    by_cases c2 : nmX en bf x < z
    · rw [e, hz] at c2; exact ⟨k, e, (nI_ltI (by omega) ha).mp c2⟩
    · rw [if_neg c2] at h; exact absurd rfl h
def wfP (a : Nat) (pf : Nat → Int32) : Prop := ∀ p : Nat, p < a → (∃ k : Nat, pf (3 * p + 0) = nI k ∧ 1 ≤ k ∧ k ≤ 300) ∧ (∃ k : Nat, pf (3 * p + 1) = nI k ∧ k ≤ 9) ∧ ∃ k : Nat, pf (3 * p + 2) = nI k ∧ k ≤ 30
def wfC (a b : Nat) (cf : Nat → Int32) : Prop := ∀ c : Nat, c < a → (∃ k : Nat, cf (5 * c + 0) = nI k ∧ k < b) ∧ (∃ k : Nat, cf (5 * c + 1) = nI k ∧ k ≤ 200) ∧ (∃ k : Nat, cf (5 * c + 2) = nI k ∧ k ≤ 60) ∧ (∃ k : Nat, cf (5 * c + 3) = nI k ∧ k ≤ 99) ∧ ∃ k : Nat, cf (5 * c + 4) = nI k ∧ k ≤ 1
def wfT (a b : Nat) (tf : Nat → Int32) : Prop := ∀ t : Nat, t < a → (∃ w u : Nat, tf (7 * t + 1) = nI w ∧ tf (7 * t + 2) = nI u ∧ u ≤ w ∧ w ≤ 60 ∧ u ≤ 9) ∧ (∃ k : Nat, tf (7 * t + 3) = nI k ∧ k ≤ 20) ∧ (∃ k : Nat, tf (7 * t + 4) = nI k ∧ k ≤ 999) ∧ (∃ k : Nat, tf (7 * t + 5) = nI k ∧ k < b) ∧ ∃ k : Nat, tf (7 * t + 6) = nI k ∧ k ≤ 9 ∧ (¬ tf (7 * t + 0) = 1 → k = 0)
def wfQ (a : Nat) (qf : Nat → Int32) : Prop := (∀ q : Nat, q < a → (∃ k : Nat, qf (2 * q + 0) = nI k ∧ 1 ≤ k ∧ k ≤ 99) ∧ ∃ k : Nat, qf (2 * q + 1) = nI k ∧ k ≤ 999) ∧ ∀ q : Nat, q + 1 < a → qf (2 * q + 0) < qf (2 * (q + 1) + 0)
theorem row3 (g : Nat → Int32) (a : Nat) (v0 v1 v2 : Int32) : (∀ j : Nat, j < 3 * a → upd (upd (upd g (3 * a + 0) v0) (3 * a + 1) v1) (3 * a + 2) v2 j = g j) ∧ upd (upd (upd g (3 * a + 0) v0) (3 * a + 1) v1) (3 * a + 2) v2 (3 * a + 0) = v0 ∧ upd (upd (upd g (3 * a + 0) v0) (3 * a + 1) v1) (3 * a + 2) v2 (3 * a + 1) = v1 ∧ upd (upd (upd g (3 * a + 0) v0) (3 * a + 1) v1) (3 * a + 2) v2 (3 * a + 2) = v2 := by
  refine ⟨fun j hj => ?_, ?_, ?_, ?_⟩ <;> simp only [upd, if_true] <;> repeat (first | rw [if_pos rfl] | rw [if_neg (by omega)])
theorem wf_person {en x a : Nat} {bf hv pf : Nat → Int32} (h5 : hv 5 = nI a) (ha : a ≤ 4) (hw : wfP a pf) (h0 : s_X4_readPerson_1_2 en x 0 bf hv = 0) : a < 4 ∧ s_X4_readPerson_2_1 en x bf hv = upd hv 5 (nI (a + 1)) ∧ wfP (a + 1) (s_X4_readPerson_3_f en x bf hv pf) := by
  have k0 := fkN_0 en bf
  unfold s_X4_readPerson_1_2 at h0
  unfold s_X4_readPerson_2_1 s_X4_readPerson_3_f
  by_cases c0 : hv 5 < 4
  · simp only [if_pos c0] at h0 ⊢
    have a4 : a < 4 := by rw [h5] at c0; exact (nI_ltI (b := 4) (by omega) (by decide)).mp c0
    by_cases c1 : s_X4_isNumber en (nX en bf x) bf 1 300 = 0
    · rw [if_pos c1] at h0; exact absurd h0 (k0 _)
    by_cases c2 : s_X4_isNumber en (nX en bf (nX en bf x)) bf 0 9 = 0
    · rw [if_neg c1, if_pos c2] at h0; exact absurd h0 (k0 _)
    by_cases c3 : s_X4_isNumber en (nX en bf (nX en bf (nX en bf x))) bf 0 30 = 0
    · rw [if_neg c1, if_neg c2, if_pos c3] at h0; exact absurd h0 (k0 _)
    simp only [if_neg c1, if_neg c2, if_neg c3]
    refine ⟨a4, by rw [h5, nI_1], fun p hp => ?_⟩
    rw [ts3 3 0 h5 3 0 rfl rfl (by omega) (by decide), ts3 3 1 h5 3 1 rfl rfl (by omega) (by decide), ts3 3 2 h5 3 2 rfl rfl (by omega) (by decide)]
    obtain ⟨r, r0, r1, r2⟩ := row3 pf a (nmX en bf (nX en bf x)) (nmX en bf (nX en bf (nX en bf x))) (nmX en bf (nX en bf (nX en bf (nX en bf x))))
    by_cases e : p = a
    · subst e
      rw [r0, r1, r2]
      obtain ⟨k, e1, e2, e3⟩ := nm_b (L := 1) (H := 300) rfl rfl (by decide) (by decide) c1
      obtain ⟨k', f1, -, f3⟩ := nm_b (L := 0) (H := 9) rfl rfl (by decide) (by decide) c2
      obtain ⟨k'', g1, -, g3⟩ := nm_b (L := 0) (H := 30) rfl rfl (by decide) (by decide) c3
      exact ⟨⟨k, e1, e2, e3⟩, ⟨k', f1, f3⟩, ⟨k'', g1, g3⟩⟩
    · rw [r _ (by omega), r _ (by omega), r _ (by omega)]
      exact hw p (by omega)
  · rw [if_neg c0] at h0; exact absurd h0 (by decide)
theorem row2 (g : Nat → Int32) (a : Nat) (v0 v1 : Int32) : (∀ j : Nat, j < 2 * a → upd (upd g (2 * a + 0) v0) (2 * a + 1) v1 j = g j) ∧ upd (upd g (2 * a + 0) v0) (2 * a + 1) v1 (2 * a + 0) = v0 ∧ upd (upd g (2 * a + 0) v0) (2 * a + 1) v1 (2 * a + 1) = v1 := by
  refine ⟨fun j hj => ?_, ?_, ?_⟩ <;> simp only [upd, if_true] <;> repeat (first | rw [if_pos rfl] | rw [if_neg (by omega)])
theorem wf_post {en x a : Nat} {bf hv qf : Nat → Int32} (h8 : hv 8 = nI a) (ha : a ≤ 6) (hw : wfQ a qf) (h0 : s_X4_readPost_1_2 en x 0 bf hv qf = 0) : a < 6 ∧ s_X4_readPost_2_1 en x bf hv qf = upd hv 8 (nI (a + 1)) ∧ wfQ (a + 1) (s_X4_readPost_3_f en x bf hv qf) := by
  have k0 := fkN_0 en bf
  unfold s_X4_readPost_1_2 at h0
  unfold s_X4_readPost_2_1 s_X4_readPost_3_f
  by_cases c0 : hv 8 < 6
  · simp only [if_pos c0] at h0 ⊢
    have a4 : a < 6 := by rw [h8] at c0; exact (nI_ltI (b := 6) (by omega) (by decide)).mp c0
    by_cases c1 : s_X4_isNumber en (nX en bf x) bf 1 99 = 0
    · rw [if_pos c1] at h0; exact absurd h0 (k0 _)
    by_cases c2 : s_X4_isMoreThanAhead en (nX en bf x) bf qf (hv 8) = 0
    · rw [if_neg c1, if_pos c2] at h0; exact absurd h0 (by decide)
    by_cases c3 : s_X4_isNumber en (nX en bf (nX en bf x)) bf 0 999 = 0
    · rw [if_neg c1, if_neg c2, if_pos c3] at h0; exact absurd h0 (k0 _)
    simp only [if_neg c1, if_neg c2, if_neg c3]
    refine ⟨a4, by rw [h8, nI_1], ?_⟩
    rw [ts3 2 0 h8 2 0 rfl rfl (by omega) (by decide), ts3 2 1 h8 2 1 rfl rfl (by omega) (by decide)]
    obtain ⟨r, r0, r1⟩ := row2 qf a (nmX en bf (nX en bf x)) (nmX en bf (nX en bf (nX en bf x)))
    constructor
    · intro q hq
      by_cases e : q = a
      · subst e
        rw [r0, r1]
        obtain ⟨k, e1, e2, e3⟩ := nm_b (L := 1) (H := 99) rfl rfl (by decide) (by decide) c1
        obtain ⟨k', f1, -, f3⟩ := nm_b (L := 0) (H := 999) rfl rfl (by decide) (by decide) c3
        exact ⟨⟨k, e1, e2, e3⟩, ⟨k', f1, f3⟩⟩
      · rw [r _ (by omega), r _ (by omega)]
        exact hw.1 q (by omega)
    · intro q hq
      by_cases e : q + 1 = a
      · subst e
        rw [r0, r _ (by omega)]
        unfold s_X4_isMoreThanAhead at c2
        have hne : ¬ hv 8 = 0 := by rw [h8]; exact nI_ne0 (by omega) (by omega)
        rw [if_neg hne] at c2
        by_cases c4 : tat 12 qf ((hv 8 - 1) * 2 + 0) < nmX en bf (nX en bf x)
        · rw [h8, nI_sub1 (by omega), ta3 2 0 rfl 2 0 rfl rfl (by omega) (by decide)] at c4
          exact c4
        · rw [if_neg c4] at c2; exact absurd rfl c2
      · rw [r _ (by omega), r _ (by omega)]
        exact hw.2 q (by omega)
  · rw [if_neg c0] at h0; exact absurd h0 (by decide)
theorem row5 (g : Nat → Int32) (a : Nat) (v0 v1 v2 v3 v4 : Int32) : (∀ j : Nat, j < 5 * a → upd (upd (upd (upd (upd g (5 * a + 0) v0) (5 * a + 1) v1) (5 * a + 2) v2) (5 * a + 3) v3) (5 * a + 4) v4 j = g j) ∧ upd (upd (upd (upd (upd g (5 * a + 0) v0) (5 * a + 1) v1) (5 * a + 2) v2) (5 * a + 3) v3) (5 * a + 4) v4 (5 * a + 0) = v0 ∧ upd (upd (upd (upd (upd g (5 * a + 0) v0) (5 * a + 1) v1) (5 * a + 2) v2) (5 * a + 3) v3) (5 * a + 4) v4 (5 * a + 1) = v1 ∧ upd (upd (upd (upd (upd g (5 * a + 0) v0) (5 * a + 1) v1) (5 * a + 2) v2) (5 * a + 3) v3) (5 * a + 4) v4 (5 * a + 2) = v2 ∧ upd (upd (upd (upd (upd g (5 * a + 0) v0) (5 * a + 1) v1) (5 * a + 2) v2) (5 * a + 3) v3) (5 * a + 4) v4 (5 * a + 3) = v3 ∧ upd (upd (upd (upd (upd g (5 * a + 0) v0) (5 * a + 1) v1) (5 * a + 2) v2) (5 * a + 3) v3) (5 * a + 4) v4 (5 * a + 4) = v4 := by
  refine ⟨fun j hj => ?_, ?_, ?_, ?_, ?_, ?_⟩ <;> simp only [upd, if_true] <;> repeat (first | rw [if_pos rfl] | rw [if_neg (by omega)])
theorem wf_case {en x a b : Nat} {bf hv cf : Nat → Int32} (h6 : hv 6 = nI a) (ha : a ≤ 5) (h5 : hv 5 = nI b) (hb : b ≤ 4) (hw : wfC a b cf) (h0 : s_X4_readCase_1_2 en x 0 bf hv = 0) : a < 5 ∧ s_X4_readCase_2_1 en x bf hv = upd hv 6 (nI (a + 1)) ∧ wfC (a + 1) b (s_X4_readCase_3_f en x bf hv cf) := by
  have k0 := fkN_0 en bf
  have k1 := fkT_0 en
  unfold s_X4_readCase_1_2 at h0
  unfold s_X4_readCase_2_1 s_X4_readCase_3_f
  by_cases c0 : hv 6 < 5
  · simp only [if_pos c0] at h0 ⊢
    have a4 : a < 5 := by rw [h6] at c0; exact (nI_ltI (b := 5) (by omega) (by decide)).mp c0
    by_cases c1 : s_X4_isTold en (nX en bf x) bf (hv 5) = 0
    · rw [if_pos c1] at h0; exact absurd h0 (k1 _ _)
    by_cases c2 : s_X4_isNumber en (nX en bf (nX en bf x)) bf 0 200 = 0
    · rw [if_neg c1, if_pos c2] at h0; exact absurd h0 (k0 _)
    by_cases c3 : s_X4_isNumber en (nX en bf (nX en bf (nX en bf x))) bf 0 60 = 0
    · rw [if_neg c1, if_neg c2, if_pos c3] at h0; exact absurd h0 (k0 _)
    by_cases c4 : s_X4_isNumber en (nX en bf (nX en bf (nX en bf (nX en bf x)))) bf 0 99 = 0
    · rw [if_neg c1, if_neg c2, if_neg c3, if_pos c4] at h0; exact absurd h0 (k0 _)
    simp only [if_neg c1, if_neg c2, if_neg c3, if_neg c4]
    have key : ∀ (v : Int32), (∃ k : Nat, v = nI k ∧ k ≤ 1) → wfC (a + 1) b (tset 25 (tset 25 (tset 25 (tset 25 (tset 25 cf (hv 6 * 5 + 0) (nmX en bf (nX en bf x))) (hv 6 * 5 + 1) (nmX en bf (nX en bf (nX en bf x)))) (hv 6 * 5 + 2) (nmX en bf (nX en bf (nX en bf (nX en bf x))))) (hv 6 * 5 + 3) (nmX en bf (nX en bf (nX en bf (nX en bf (nX en bf x)))))) (hv 6 * 5 + 4) v) := by
      intro v hv' c hc
      rw [ts3 5 0 h6 5 0 rfl rfl (by omega) (by decide), ts3 5 1 h6 5 1 rfl rfl (by omega) (by decide), ts3 5 2 h6 5 2 rfl rfl (by omega) (by decide), ts3 5 3 h6 5 3 rfl rfl (by omega) (by decide), ts3 5 4 h6 5 4 rfl rfl (by omega) (by decide)]
      obtain ⟨r, r0, r1, r2, r3, r4⟩ := row5 cf a (nmX en bf (nX en bf x)) (nmX en bf (nX en bf (nX en bf x))) (nmX en bf (nX en bf (nX en bf (nX en bf x)))) (nmX en bf (nX en bf (nX en bf (nX en bf (nX en bf x))))) v
      by_cases e : c = a
      · subst e
        rw [r0, r1, r2, r3, r4]
        obtain ⟨k, e1, e3⟩ := tl_b h5 (by omega) c1
        obtain ⟨k', f1, -, f3⟩ := nm_b (L := 0) (H := 200) rfl rfl (by decide) (by decide) c2
        obtain ⟨k'', g1, -, g3⟩ := nm_b (L := 0) (H := 60) rfl rfl (by decide) (by decide) c3
        obtain ⟨k3, i1, -, i3⟩ := nm_b (L := 0) (H := 99) rfl rfl (by decide) (by decide) c4
        exact ⟨⟨k, e1, e3⟩, ⟨k', f1, f3⟩, ⟨k'', g1, g3⟩, ⟨k3, i1, i3⟩, hv'⟩
      · rw [r _ (by omega), r _ (by omega), r _ (by omega), r _ (by omega), r _ (by omega)]
        exact hw c (by omega)
    by_cases c5 : wX en bf (nX en bf (nX en bf (nX en bf (nX en bf (nX en bf x))))) = 3
    · simp only [if_pos c5]
      exact ⟨a4, by rw [h6, nI_1], key 1 ⟨1, rfl, by decide⟩⟩
    · simp only [if_neg c5]
      exact ⟨a4, by rw [h6, nI_1], key 0 ⟨0, rfl, by decide⟩⟩
  · rw [if_neg c0] at h0; exact absurd h0 (by decide)
theorem row7 (g : Nat → Int32) (a : Nat) (v0 v1 v2 v3 v4 v5 v6 : Int32) : (∀ j : Nat, j < 7 * a → (upd (upd (upd (upd (upd (upd (upd g (7 * a + 0) v0) (7 * a + 6) v6) (7 * a + 1) v1) (7 * a + 2) v2) (7 * a + 3) v3) (7 * a + 4) v4) (7 * a + 5) v5) j = g j) ∧ (upd (upd (upd (upd (upd (upd (upd g (7 * a + 0) v0) (7 * a + 6) v6) (7 * a + 1) v1) (7 * a + 2) v2) (7 * a + 3) v3) (7 * a + 4) v4) (7 * a + 5) v5) (7 * a + 0) = v0 ∧ (upd (upd (upd (upd (upd (upd (upd g (7 * a + 0) v0) (7 * a + 6) v6) (7 * a + 1) v1) (7 * a + 2) v2) (7 * a + 3) v3) (7 * a + 4) v4) (7 * a + 5) v5) (7 * a + 1) = v1 ∧ (upd (upd (upd (upd (upd (upd (upd g (7 * a + 0) v0) (7 * a + 6) v6) (7 * a + 1) v1) (7 * a + 2) v2) (7 * a + 3) v3) (7 * a + 4) v4) (7 * a + 5) v5) (7 * a + 2) = v2 ∧ (upd (upd (upd (upd (upd (upd (upd g (7 * a + 0) v0) (7 * a + 6) v6) (7 * a + 1) v1) (7 * a + 2) v2) (7 * a + 3) v3) (7 * a + 4) v4) (7 * a + 5) v5) (7 * a + 3) = v3 ∧ (upd (upd (upd (upd (upd (upd (upd g (7 * a + 0) v0) (7 * a + 6) v6) (7 * a + 1) v1) (7 * a + 2) v2) (7 * a + 3) v3) (7 * a + 4) v4) (7 * a + 5) v5) (7 * a + 4) = v4 ∧ (upd (upd (upd (upd (upd (upd (upd g (7 * a + 0) v0) (7 * a + 6) v6) (7 * a + 1) v1) (7 * a + 2) v2) (7 * a + 3) v3) (7 * a + 4) v4) (7 * a + 5) v5) (7 * a + 5) = v5 ∧ (upd (upd (upd (upd (upd (upd (upd g (7 * a + 0) v0) (7 * a + 6) v6) (7 * a + 1) v1) (7 * a + 2) v2) (7 * a + 3) v3) (7 * a + 4) v4) (7 * a + 5) v5) (7 * a + 6) = v6 := by
  refine ⟨fun j hj => ?_, ?_, ?_, ?_, ?_, ?_, ?_, ?_⟩ <;> simp only [upd, if_true] <;> repeat (first | rw [if_pos rfl] | rw [if_neg (by omega)])
theorem row8 (g : Nat → Int32) (a : Nat) (v0 v1 v2 v3 v4 v5 v6 w6 : Int32) : (∀ j : Nat, j < 7 * a → upd (upd (upd (upd (upd (upd (upd (upd g (7 * a + 0) v0) (7 * a + 6) v6) (7 * a + 1) v1) (7 * a + 2) v2) (7 * a + 3) v3) (7 * a + 4) v4) (7 * a + 5) v5) (7 * a + 6) w6 j = g j) ∧ upd (upd (upd (upd (upd (upd (upd (upd g (7 * a + 0) v0) (7 * a + 6) v6) (7 * a + 1) v1) (7 * a + 2) v2) (7 * a + 3) v3) (7 * a + 4) v4) (7 * a + 5) v5) (7 * a + 6) w6 (7 * a + 0) = v0 ∧ upd (upd (upd (upd (upd (upd (upd (upd g (7 * a + 0) v0) (7 * a + 6) v6) (7 * a + 1) v1) (7 * a + 2) v2) (7 * a + 3) v3) (7 * a + 4) v4) (7 * a + 5) v5) (7 * a + 6) w6 (7 * a + 1) = v1 ∧ upd (upd (upd (upd (upd (upd (upd (upd g (7 * a + 0) v0) (7 * a + 6) v6) (7 * a + 1) v1) (7 * a + 2) v2) (7 * a + 3) v3) (7 * a + 4) v4) (7 * a + 5) v5) (7 * a + 6) w6 (7 * a + 2) = v2 ∧ upd (upd (upd (upd (upd (upd (upd (upd g (7 * a + 0) v0) (7 * a + 6) v6) (7 * a + 1) v1) (7 * a + 2) v2) (7 * a + 3) v3) (7 * a + 4) v4) (7 * a + 5) v5) (7 * a + 6) w6 (7 * a + 3) = v3 ∧ upd (upd (upd (upd (upd (upd (upd (upd g (7 * a + 0) v0) (7 * a + 6) v6) (7 * a + 1) v1) (7 * a + 2) v2) (7 * a + 3) v3) (7 * a + 4) v4) (7 * a + 5) v5) (7 * a + 6) w6 (7 * a + 4) = v4 ∧ upd (upd (upd (upd (upd (upd (upd (upd g (7 * a + 0) v0) (7 * a + 6) v6) (7 * a + 1) v1) (7 * a + 2) v2) (7 * a + 3) v3) (7 * a + 4) v4) (7 * a + 5) v5) (7 * a + 6) w6 (7 * a + 5) = v5 ∧ upd (upd (upd (upd (upd (upd (upd (upd g (7 * a + 0) v0) (7 * a + 6) v6) (7 * a + 1) v1) (7 * a + 2) v2) (7 * a + 3) v3) (7 * a + 4) v4) (7 * a + 5) v5) (7 * a + 6) w6 (7 * a + 6) = w6 := by
  refine ⟨fun j hj => ?_, ?_, ?_, ?_, ?_, ?_, ?_, ?_⟩ <;> simp only [upd, if_true] <;> repeat (first | rw [if_pos rfl] | rw [if_neg (by omega)])
theorem wf_thing {en x a b nt : Nat} {bf hv cf tf : Nat → Int32} {z : Int32} (h7 : hv 7 = nI a) (ha : a ≤ 12) (h6 : hv 6 = nI b) (hb : b ≤ 5) (hw : wfT a b tf) (h0 : s_X4_readThing_1_2 en x 0 bf hv nt cf tf z = 0) : a < 12 ∧ s_X4_readThing_2_1 en x bf hv nt cf tf z = upd hv 7 (nI (a + 1)) ∧ wfT (a + 1) b (s_X4_readThing_3_f en x bf hv nt cf tf z) := by
  have k0 := fkN_0 en bf
  have k1 := fkT_0 en
  unfold s_X4_readThing_1_2 at h0
  unfold s_X4_readThing_2_1 s_X4_readThing_3_f
  by_cases c0 : hv 7 < 12
  · simp only [if_pos c0] at h0 ⊢
    have a4 : a < 12 := by rw [h7] at c0; exact (nI_ltI (b := 12) (by omega) (by decide)).mp c0
    by_cases c1 : s_X4_isNumber en (nX en bf x) bf 0 60 = 0
    · rw [if_pos c1] at h0; exact absurd h0 (k0 _)
    obtain ⟨w, w1, -, w3⟩ := nm_b (L := 0) (H := 60) rfl rfl (by decide) (by decide) c1
    have hz2 : imin 9 (tat 84 (tset 84 (tset 84 (tset 84 tf (hv 7 * 7 + 0) z) (hv 7 * 7 + 6) 0) (hv 7 * 7 + 1) (nmX en bf (nX en bf x))) (hv 7 * 7 + 1)) = nI (min 9 w) := by
      rw [ts3 7 1 h7 7 1 rfl rfl (by omega) (by decide), h7, ta3 7 1 rfl 7 1 rfl rfl (by omega) (by decide), upd_at9, w1]
      unfold imin
      rw [show (9 : Int32) = nI 9 from rfl]
      rcases Nat.lt_or_ge w 9 with q | q
      · rw [if_pos (nI_lt (b := 9) q (by decide)), Nat.min_eq_right (by omega)]
      · rw [if_neg (nI_nlt (b := 9) q (by omega)), Nat.min_eq_left q]
    rw [hz2] at h0 ⊢
    by_cases c2 : s_X4_isNumber en (nX en bf (nX en bf x)) bf 0 (nI (min 9 w)) = 0
    · rw [if_neg c1, if_pos c2] at h0; exact absurd h0 (k0 _)
    by_cases c3 : s_X4_isNumber en (nX en bf (nX en bf (nX en bf x))) bf 0 20 = 0
    · rw [if_neg c1, if_neg c2, if_pos c3] at h0; exact absurd h0 (k0 _)
    by_cases c4 : s_X4_isNumber en (nX en bf (nX en bf (nX en bf (nX en bf x)))) bf 0 999 = 0
    · rw [if_neg c1, if_neg c2, if_neg c3, if_pos c4] at h0; exact absurd h0 (k0 _)
    by_cases c5 : s_X4_isTold en (nX en bf (nX en bf (nX en bf (nX en bf (nX en bf x))))) bf (hv 6) = 0
    · rw [if_neg c1, if_neg c2, if_neg c3, if_neg c4, if_pos c5] at h0; exact absurd h0 (k1 _ _)
    by_cases c6 : s_X4_isRoomFor nt cf (tset 84 (tset 84 (tset 84 (tset 84 (tset 84 (tset 84 tf (hv 7 * 7 + 0) z) (hv 7 * 7 + 6) 0) (hv 7 * 7 + 1) (nmX en bf (nX en bf x))) (hv 7 * 7 + 2) (nmX en bf (nX en bf (nX en bf x)))) (hv 7 * 7 + 3) (nmX en bf (nX en bf (nX en bf (nX en bf x))))) (hv 7 * 7 + 4) (nmX en bf (nX en bf (nX en bf (nX en bf (nX en bf x)))))) (hv 7) (nmX en bf (nX en bf (nX en bf (nX en bf (nX en bf (nX en bf x)))))) = 0
    · rw [if_neg c1, if_neg c2, if_neg c3, if_neg c4, if_neg c5, if_pos c6] at h0; exact absurd h0 (by decide)
    simp only [if_neg c1, if_neg c2, if_neg c3, if_neg c4, if_neg c5, if_neg c6] at h0 ⊢
    obtain ⟨u, u1, -, u3⟩ := nm_b (L := 0) (H := min 9 w) rfl rfl (by omega) (by decide) c2
    obtain ⟨k3, i1, -, i3⟩ := nm_b (L := 0) (H := 20) rfl rfl (by decide) (by decide) c3
    obtain ⟨k4, j1, -, j3⟩ := nm_b (L := 0) (H := 999) rfl rfl (by decide) (by decide) c4
    obtain ⟨k5, l1, l3⟩ := tl_b h6 (by omega) c5
    by_cases c7 : z = 1
    · simp only [if_pos c7] at h0 ⊢
      by_cases c8 : s_X4_isNumber en (nX en bf (nX en bf (nX en bf (nX en bf (nX en bf (nX en bf x)))))) bf 1 9 = 0
      · rw [if_pos c8] at h0; exact absurd h0 (k0 _)
      simp only [if_neg c8]
      obtain ⟨k6, m1, -, m3⟩ := nm_b (L := 1) (H := 9) rfl rfl (by decide) (by decide) c8
      refine ⟨a4, by rw [h7, nI_1], fun t ht => ?_⟩
      rw [ts3 7 0 h7 7 0 rfl rfl (by omega) (by decide), ts3 7 6 h7 7 6 rfl rfl (by omega) (by decide), ts3 7 1 h7 7 1 rfl rfl (by omega) (by decide), ts3 7 2 h7 7 2 rfl rfl (by omega) (by decide), ts3 7 3 h7 7 3 rfl rfl (by omega) (by decide), ts3 7 4 h7 7 4 rfl rfl (by omega) (by decide), ts3 7 5 h7 7 5 rfl rfl (by omega) (by decide), ts3 7 6 h7 7 6 rfl rfl (by omega) (by decide)]
      obtain ⟨r, r0, r1, r2, r3, r4, r5, r6⟩ := row8 tf a z (nmX en bf (nX en bf x)) (nmX en bf (nX en bf (nX en bf x))) (nmX en bf (nX en bf (nX en bf (nX en bf x)))) (nmX en bf (nX en bf (nX en bf (nX en bf (nX en bf x))))) (nmX en bf (nX en bf (nX en bf (nX en bf (nX en bf (nX en bf x)))))) 0 (nmX en bf (nX en bf (nX en bf (nX en bf (nX en bf (nX en bf (nX en bf x)))))))
      by_cases e : t = a
      · subst e
        rw [r0, r1, r2, r3, r4, r5, r6]
        exact ⟨⟨w, u, w1, u1, by omega, w3, by omega⟩, ⟨k3, i1, i3⟩, ⟨k4, j1, j3⟩, ⟨k5, l1, l3⟩, ⟨k6, m1, m3, fun q => absurd c7 q⟩⟩
      · rw [r _ (by omega), r _ (by omega), r _ (by omega), r _ (by omega), r _ (by omega), r _ (by omega), r _ (by omega)]
        exact hw t (by omega)
    · simp only [if_neg c7] at h0 ⊢
      refine ⟨a4, by rw [h7, nI_1], fun t ht => ?_⟩
      rw [ts3 7 0 h7 7 0 rfl rfl (by omega) (by decide), ts3 7 6 h7 7 6 rfl rfl (by omega) (by decide), ts3 7 1 h7 7 1 rfl rfl (by omega) (by decide), ts3 7 2 h7 7 2 rfl rfl (by omega) (by decide), ts3 7 3 h7 7 3 rfl rfl (by omega) (by decide), ts3 7 4 h7 7 4 rfl rfl (by omega) (by decide), ts3 7 5 h7 7 5 rfl rfl (by omega) (by decide)]
      obtain ⟨r, r0, r1, r2, r3, r4, r5, r6⟩ := row7 tf a z (nmX en bf (nX en bf x)) (nmX en bf (nX en bf (nX en bf x))) (nmX en bf (nX en bf (nX en bf (nX en bf x)))) (nmX en bf (nX en bf (nX en bf (nX en bf (nX en bf x))))) (nmX en bf (nX en bf (nX en bf (nX en bf (nX en bf (nX en bf x)))))) 0
      by_cases e : t = a
      · subst e
        rw [r0, r1, r2, r3, r4, r5, r6]
        exact ⟨⟨w, u, w1, u1, by omega, w3, by omega⟩, ⟨k3, i1, i3⟩, ⟨k4, j1, j3⟩, ⟨k5, l1, l3⟩, ⟨0, rfl, by decide, fun _ => rfl⟩⟩
      · rw [r _ (by omega), r _ (by omega), r _ (by omega), r _ (by omega), r _ (by omega), r _ (by omega), r _ (by omega)]
        exact hw t (by omega)
  · rw [if_neg c0] at h0; exact absurd h0 (by decide)
end
