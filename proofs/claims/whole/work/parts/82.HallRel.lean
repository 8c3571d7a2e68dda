/-! behind a text that is read: what holds of both sides' tables -/
noncomputable section
theorem rl_F {hv pf cf tf qf c0 s0 : Nat → Int32} {td : Int32} {cs : List Int32} (h : wfA hv td cs pf cf tf qf) (hl : cs.length ≤ 700) : rlF cs.length td (layC cs c0) (thF 700 (layM cs s0) 700) := by
  obtain ⟨a, b, c, d, -, -, -, -, -, -, -, -, hR, -, -⟩ := h
  refine ⟨cs, rfl, hl, ?_, fun t ht => ?_, fun t ht => ?_⟩
  · rcases hR with ⟨h1, h2⟩ | ⟨h1, h2⟩
    · exact Or.inl ⟨h1, by rw [h2]; rfl⟩
    · refine Or.inr ⟨by rw [h1]; decide, fun q => ?_, h2⟩
      rw [List.length_eq_zero_iff.mp q] at h2
      exact absurd (show (0 : Nat) = 1 from h2) (by decide)
  · unfold layC; rw [if_pos ht]
  · rw [thF_at (show t < 700 by omega)]
    unfold layM
    rw [if_pos ⟨by omega, by omega⟩, show 700 + t - 700 = t by omega]
theorem wf_wt {c b : Nat} {tf : Nat → Int32} (h : wfT c b tf) (hc : c ≤ 12) : wtOK c tf := fun t ht => by
  obtain ⟨⟨w, u, e1, e2, h1, h2, h3⟩, -⟩ := h t ht
  rw [ta3 7 1 rfl 7 1 rfl rfl (by omega) (by decide), ta3 7 2 rfl 7 2 rfl rfl (by omega) (by decide), e1, e2, nI_clamp (by omega), nI_clamp (by omega)]
  exact ⟨rfl, rfl, h1, h2, h3⟩
theorem wf_li {b a : Nat} {cf : Nat → Int32} (h : wfC b a cf) : liOK b cf := fun c hc => by
  obtain ⟨-, ⟨k, e, hk⟩, -⟩ := h c hc
  exact ⟨k, hk, e⟩
theorem wf_hz {c b : Nat} {tf ki he un wi va ht : Nat → Int32} (h : wfT c b tf) (hT : rlT c tf ki he un wi va ht) : ∀ t : Nat, t < c → ¬ ki t = 1 → ht t = 0 := fun t h9 hk => by
  obtain ⟨-, -, -, -, k, e, -, hz⟩ := h t h9
  obtain ⟨t0, -, -, -, -, t6⟩ := hT t h9
  rw [t6, e, hz (by rw [← t0]; exact hk)]
  rfl
end
