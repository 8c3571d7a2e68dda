/-! the code of a rule that is read is good: each part finds what it takes, and at most 31 values lie on the stack at once -/
noncomputable section
/-- from h values on, never above k, to h2 -/
def rpS : List Int32 → Nat → Nat → Nat → Prop
  | [], h, _, h2 => h = h2
  | v :: c, h, k, h2 => if v ≤ -10 then (if v = -12 then 1 ≤ h ∧ rpS c h k h2 else 2 ≤ h ∧ -19 < v ∧ rpS c (h - 1) k h2) else -6 < v ∧ h + 1 ≤ k ∧ rpS c (h + 1) k h2
theorem rp_app : ∀ (a b : List Int32) (h k h1 h2 : Nat), rpS a h k h1 → rpS b h1 k h2 → rpS (a ++ b) h k h2
  | [], b, h, k, h1, h2, ha, hb => by
    have e : h = h1 := ha
    subst e
    exact hb
  | v :: a, b, h, k, h1, h2, ha, hb => by
    rw [List.cons_append, rpS]
    rw [rpS] at ha
    by_cases c1 : v ≤ -10
    · rw [if_pos c1] at ha ⊢
      by_cases c2 : v = -12
      · rw [if_pos c2] at ha ⊢
        exact ⟨ha.1, rp_app a b h k h1 h2 ha.2 hb⟩
      · rw [if_neg c2] at ha ⊢
        exact ⟨ha.1, ha.2.1, rp_app a b (h - 1) k h1 h2 ha.2.2 hb⟩
    · rw [if_neg c1] at ha ⊢
      exact ⟨ha.1, ha.2.1, rp_app a b (h + 1) k h1 h2 ha.2.2 hb⟩
theorem rp_mono : ∀ (a : List Int32) (h k k2 h1 s : Nat), k + s ≤ k2 → rpS a h k h1 → rpS a (h + s) k2 (h1 + s)
  | [], h, k, k2, h1, s, _, ha => by
    have e : h = h1 := ha
    subst e
    exact (rfl : h + s = h + s)
  | v :: a, h, k, k2, h1, s, hk, ha => by
    rw [rpS] at ha ⊢
    by_cases c1 : v ≤ -10
    · rw [if_pos c1] at ha ⊢
      by_cases c2 : v = -12
      · rw [if_pos c2] at ha ⊢
        exact ⟨by omega, rp_mono a h k k2 h1 s hk ha.2⟩
      · rw [if_neg c2] at ha ⊢
        refine ⟨by omega, ha.2.1, ?_⟩
        have := rp_mono a (h - 1) k k2 h1 s hk ha.2.2
        rw [show h - 1 + s = h + s - 1 by omega] at this
        exact this
    · rw [if_neg c1] at ha ⊢
      refine ⟨ha.1, by omega, ?_⟩
      have := rp_mono a (h + 1) k k2 h1 s hk ha.2.2
      rw [show h + 1 + s = h + s + 1 by omega] at this
      exact this
theorem rp_bin {a b : List Int32} {k : Nat} {v : Int32} (ha : rpS a 0 (k + 1) 1) (hb : rpS b 0 k 1) (h1 : v ≤ -10) (h2 : ¬ v = -12) (h3 : -19 < v) : rpS (a ++ b ++ [v]) 0 (k + 1) 1 := by
  refine rp_app _ _ _ _ 2 _ (rp_app _ _ _ _ 1 _ ha ?_) ?_
  · exact rp_mono b 0 k (k + 1) 1 1 (Nat.le_refl _) hb
  · rw [rpS, if_pos h1, if_neg h2]
    exact ⟨Nat.le_refl _, h3, rfl⟩
theorem rp_up {a : List Int32} {k k2 : Nat} (hk : k ≤ k2) (ha : rpS a 0 k 1) : rpS a 0 k2 1 := rp_mono a 0 k k2 1 0 (by omega) ha
theorem rp_rep {a : List Int32} {k : Nat} (cs : List Int32) (ha : rpS a 0 k 1) : ∀ j : Nat, ∃ c : List Int32, eRep (cs ++ a) j = cs ++ c ∧ rpS c 0 k 1
  | 0 => ⟨a, rfl, ha⟩
  | j + 1 => by
    obtain ⟨c, h1, h2⟩ := rp_rep cs ha j
    refine ⟨c ++ [-12], by rw [eRep, h1, List.append_assoc], rp_app _ _ _ _ 1 _ h2 ?_⟩
    rw [rpS, if_pos (by decide), if_pos rfl]
    exact ⟨Nat.le_refl _, rfl⟩
def eG (en k : Nat) (S : Nat → List Int32 → Int32 × Nat × List Int32) : Prop := ∀ (x : Nat) (cs : List Int32), x ≤ en → (S x cs).1 = 0 → ∃ c : List Int32, (S x cs).2.2 = cs ++ c ∧ rpS c 0 k 1
def opG (op : Nat → Int32) : Prop := ∀ x : Nat, op x = 0 ∨ (op x ≤ -10 ∧ ¬ op x = -12 ∧ -19 < op x)
theorem eLp_G {en k : Nat} {bf : Nat → Int32} {op : Nat → Int32} {S : Nat → List Int32 → Int32 × Nat × List Int32} (he : en ≤ 700) (hB : eB en S) (hG : eG en k S) (hop : opG op) (cs : List Int32) : ∀ (n : Nat) (r : Int32 × Nat × List Int32), r.2.1 ≤ en → (r.1 = 0 → ∃ c : List Int32, r.2.2 = cs ++ c ∧ rpS c 0 (k + 1) 1) → (eLoop en bf op S n r).1 = 0 → ∃ c : List Int32, (eLoop en bf op S n r).2.2 = cs ++ c ∧ rpS c 0 (k + 1) 1
  | 0, r, _, h, h0 => h h0
  | n + 1, r, hx, h, h0 => by
    by_cases c1 : r.1 = 0
    · by_cases c2 : op r.2.1 = 0
      · rw [eLoop_op c2] at h0 ⊢
        exact h c1
      · rw [eLoop_on c1 c2] at h0 ⊢
        have hn := nX_le (bf := bf) hx he
        refine eLp_G he hB hG hop cs n _ ?_ ?_ h0
        · rw [eIf_x]
          exact (hB (nX en bf r.2.1) r.2.2 hn).2.1
        · intro hf
          rw [eIf_1] at hf
          obtain ⟨a, a1, a2⟩ := h c1
          obtain ⟨b, b1, b2⟩ := hG (nX en bf r.2.1) r.2.2 hn hf
          obtain ⟨o1, o2, o3⟩ := (hop r.2.1).resolve_left c2
          refine ⟨a ++ b ++ [op r.2.1], ?_, rp_bin a2 b2 o1 o2 o3⟩
          show (if (S (nX en bf r.2.1) r.2.2).1 = 0 then (S (nX en bf r.2.1) r.2.2).2.2 ++ [op r.2.1] else (S (nX en bf r.2.1) r.2.2).2.2) = _
          rw [if_pos hf, b1, a1, List.append_assoc, List.append_assoc, List.append_assoc]
    · rw [eLoop_bad c1] at h0
      exact absurd h0 c1
theorem eLoop_G {en k n : Nat} {bf : Nat → Int32} {op : Nat → Int32} {S : Nat → List Int32 → Int32 × Nat × List Int32} (he : en ≤ 700) (hB : eB en S) (hG : eG en k S) (hop : opG op) : eG en (k + 1) (fun x cs => eLoop en bf op S n (S x cs)) := fun x cs hx h0 =>
  eLp_G he hB hG hop cs n (S x cs) (hB x cs hx).2.1 (fun h => by
    obtain ⟨c, h1, h2⟩ := hG x cs hx h
    exact ⟨c, h1, rp_up (Nat.le_succ k) h2⟩) h0
theorem ePart_G {en k : Nat} {bf : Nat → Int32} {E : Nat → List Int32 → Int32 × Nat × List Int32} (he : en ≤ 700) (hk : 1 ≤ k) (hE : eG en k E) : eG en k (ePart en bf E) := by
  intro x cs hx h0
  unfold ePart at h0 ⊢
  by_cases c1 : kX en bf x = 1
  · rw [if_pos c1] at h0 ⊢
    by_cases c2 : wV en bf x = -1
    · rw [if_pos c2] at h0; exact absurd (show (3 : Int32) = 0 from h0) (by decide)
    · rw [if_neg c2] at h0 ⊢
      have key : ∀ w : Nat, w < 20 → (¬ (-1 : Int32) - wVl.getD w 0 ≤ -10 ∧ -6 < (-1 : Int32) - wVl.getD w 0) := by decide
      have hw : ¬ -1 - wV en bf x ≤ -10 ∧ -6 < -1 - wV en bf x := key _ (wX_lt en bf x)
      refine ⟨[-1 - wV en bf x], rfl, ?_⟩
      rw [rpS, if_neg hw.1]
      exact ⟨hw.2, hk, rfl⟩
  · rw [if_neg c1] at h0 ⊢
    by_cases c3 : kX en bf x = 2
    · rw [if_pos c3] at h0 ⊢
      by_cases c4 : 9999 < nmX en bf x
      · rw [if_pos c4] at h0; exact absurd (show (2 : Int32) = 0 from h0) (by decide)
      · rw [if_neg c4] at h0 ⊢
        have hv : (0 : Int32) ≤ nmX en bf x := by
          have h := num_R hx he c3
          by_cases h4 : nX en bf x - pX en bf x ≤ 4
          · obtain ⟨v, v1, v2, -⟩ := h.1 h4
            rw [v2]; exact nI_pos' (by omega)
          · rw [h.2 (by omega)]; decide
        refine ⟨[nmX en bf x], rfl, ?_⟩
        rw [rpS, if_neg (fun q => absurd (Int32.le_trans hv q) (by decide))]
        exact ⟨Int32.lt_of_lt_of_le (by decide) hv, hk, rfl⟩
    · rw [if_neg c3] at h0 ⊢
      by_cases c5 : kX en bf x = 40
      · rw [if_pos c5] at h0 ⊢
        unfold eCl at h0 ⊢
        by_cases c6 : (E (nX en bf x) cs).1 = 0
        · rw [if_pos c6] at h0 ⊢
          by_cases c7 : kX en bf (E (nX en bf x) cs).2.1 = 41
          · rw [if_pos c7]
            exact hE (nX en bf x) cs (nX_le hx he) c6
          · rw [if_neg c7] at h0; exact absurd (show (1 : Int32) = 0 from h0) (by decide)
        · rw [if_neg c6] at h0; exact absurd h0 c6
      · rw [if_neg c5] at h0; exact absurd (show (1 : Int32) = 0 from h0) (by decide)
theorem opP_G (en : Nat) (bf : Nat → Int32) : opG (opP en bf) := fun x => by
  unfold opP
  (repeat' split) <;> first | exact Or.inl rfl | exact Or.inr (by decide)
theorem opS_G (en : Nat) (bf : Nat → Int32) : opG (opS en bf) := fun x => by
  unfold opS
  (repeat' split) <;> first | exact Or.inl rfl | exact Or.inr (by decide)
theorem opA_G (en : Nat) (bf : Nat → Int32) : opG (opA en bf) := fun x => by
  unfold opA
  (repeat' split) <;> first | exact Or.inl rfl | exact Or.inr (by decide)
theorem opO_G (en : Nat) (bf : Nat → Int32) : opG (opO en bf) := fun x => by
  unfold opO
  (repeat' split) <;> first | exact Or.inl rfl | exact Or.inr (by decide)
theorem opT_G (en : Nat) (bf : Nat → Int32) : opG (opT en bf) := fun x => by
  unfold opT
  (repeat' split) <;> first | exact Or.inl rfl | exact Or.inr (by decide)
theorem eNot_G {en k : Nat} {bf : Nat → Int32} {E : Nat → List Int32 → Int32 × Nat × List Int32} (he : en ≤ 700) (hT : eG en k (eTest en bf E)) : eG en k (eNot en bf E) := by
  intro x cs hx h0
  unfold eNot at h0 ⊢
  by_cases c : wX en bf (eNotX en bf 6 x) = 15
  · rw [if_pos c] at h0; exact absurd (show (2 : Int32) = 0 from h0) (by decide)
  · rw [if_neg c] at h0 ⊢
    obtain ⟨a, h1, h2⟩ := hT (eNotX en bf 6 x) cs (eNotX_B (bf := bf) he 6 x hx).2 h0
    simp only [h1]
    exact rp_rep cs h2 _
theorem eE_G {en : Nat} {bf : Nat → Int32} (he : en ≤ 700) : ∀ d : Nat, eG en (5 * d + 1) (eE en bf d)
  | 0 => fun x cs hx h0 => by
    exfalso
    unfold eE at h0
    (repeat' split at h0) <;> first | exact absurd (show (2 : Int32) = 0 from h0) (by decide) | exact absurd (show (1 : Int32) = 0 from h0) (by decide) | exact absurd (show (3 : Int32) = 0 from h0) (by decide)
  | d + 1 => by
    have hEB := eE_B (bf := bf) he d
    have g0 : eG en (5 * d + 1) (ePart en bf (eE en bf d)) := ePart_G he (by omega) (eE_G he d)
    have g1 : eG en (5 * d + 2) (eProd en bf (eE en bf d)) := eLoop_G he (ePart_B he hEB) g0 (opP_G en bf)
    have g2 : eG en (5 * d + 3) (eSum en bf (eE en bf d)) := eLoop_G he (eProd_B he hEB) g1 (opS_G en bf)
    have g3 : eG en (5 * d + 4) (eTest en bf (eE en bf d)) := eLoop_G he (eSum_B he hEB) g2 (opT_G en bf)
    have g4 : eG en (5 * d + 4) (eNot en bf (eE en bf d)) := eNot_G he g3
    have g5 : eG en (5 * d + 5) (eAnd en bf (eE en bf d)) := eLoop_G he (eNot_B he hEB) g4 (opA_G en bf)
    have g6 : eG en (5 * d + 6) (eOr en bf (eE en bf d)) := eLoop_G he (eAnd_B he hEB) g5 (opO_G en bf)
    exact g6
/-- the rule that is read in a text, from an empty code on -/
theorem eE_6 {en x : Nat} {bf : Nat → Int32} (he : en ≤ 700) (hx : x ≤ en) (h0 : (eE en bf 6 x []).1 = 0) : rpS (eE en bf 6 x []).2.2 0 31 1 := by
  obtain ⟨c, h1, h2⟩ := eE_G (bf := bf) he 6 x [] hx h0
  rw [h1, List.nil_append]
  exact h2
end
