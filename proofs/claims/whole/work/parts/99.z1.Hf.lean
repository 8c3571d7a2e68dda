/-! the law's own methods over both sides -/
noncomputable section
abbrev HF (l : Launch) (D : va_G) (cB cI cJ : ClassId) (ad : Nat → Nat) (A V : Nat → Nat → Int32) (R : Nat → Nat) (L : Nat → Nat → Int64) (yL : MethodName) (wsL : List Cond) (AsL : List Value) (y3 : MethodName) (ws3 : List Cond) (As3 : List Value) : Prop :=
  ∃ (fr lo : Nat) (post : Int32 → (Nat → va_E) → Prop), cH l D cB cI cJ ad 128 (pl ad cB cI cJ A V R L) yL wsL fr lo AsL post ∧ fr ≤ 61 ∧ lo ≤ 1400 ∧ ∀ (v : Int32) (M : Nat → va_E), post v M → ∃ (r1 : Int32) (A' V' : Nat → Nat → Int32) (R' : Nat → Nat) (L' : Nat → Nat → Int64), M = pl ad cB cI cJ A' V' R' L' ∧ (v = 0 → L' 127 0 = r1.toInt64) ∧ RF l D cB cI cJ ad A' V' R' L' y3 ws3 As3 v r1
theorem hf_CF {l : Launch} {D : va_G} {cB cI cJ : ClassId} {ad : Nat → Nat} {A V : Nat → Nat → Int32} {R : Nat → Nat} {L : Nat → Nat → Int64} {y1 : MethodName} {ws1 : List Cond} {As1 : List Value} {y3 : MethodName} {ws3 : List Cond} {As3 : List Value} {yL : MethodName} {wsL : List Cond} {AsL : List Value} (h : CF l D cB cI cJ ad A V R L y1 ws1 As1 y3 ws3 As3)
    (hH : ∀ (fr lo : Nat) (post : Int32 → (Nat → va_E) → Prop), cWi l D cB cI cJ ad 128 (pl ad cB cI cJ A V R L) y1 ws1 fr lo As1 post → (∀ (r : Int32) (M1 : Nat → va_E), post r M1 → M1 127 = .inl (cJ, 1, .inr (.inl (L 127)))) → cH l D cB cI cJ ad 128 (pl ad cB cI cJ A V R L) yL wsL (fr + 1) (lo + 40) AsL (fun v M' => v = 0 ∧ ∃ (r : Int32) (M1 : Nat → va_E), post r M1 ∧ M' = va_up M1 127 (.inl (cJ, 1, .inr (.inl (vp_updL (L 127) 0 r.toInt64)))))) :
    HF l D cB cI cJ ad A V R L yL wsL AsL y3 ws3 As3 := by
  obtain ⟨fr, lo, post, hM, h1, h2, hp⟩ := h
  refine ⟨_, _, _, hH fr lo post hM (fun r M1 q => ?_), by omega, by omega, fun v M q => ?_⟩
  · obtain ⟨A1, V1, R1, L1, rfl, e, -⟩ := hp r M1 q
    show Sum.inl (cJ, 1, Sum.inr (Sum.inl (L1 127))) = _
    rw [e]
  · obtain ⟨rfl, r, M1, q1, rfl⟩ := q
    obtain ⟨A1, V1, R1, L1, rfl, e, hR⟩ := hp r M1 q1
    exact ⟨r, A1, V1, R1, _, pl_out _, fun _ => by rw [va_up_self]; rfl, hR _⟩
theorem hf_CX {l : Launch} {D : va_G} {cB cI cJ : ClassId} {ad : Nat → Nat} {A V : Nat → Nat → Int32} {R : Nat → Nat} {L : Nat → Nat → Int64} {y1 : MethodName} {ws1 : List Cond} {As1 : List Value} {y3 : MethodName} {ws3 : List Cond} {As3 : List Value} {yL : MethodName} {wsL : List Cond} {AsL : List Value} {E0 : String} {kc : Int32} (h : CX l D cB cI cJ ad A V R L y1 ws1 As1 y3 ws3 As3 E0 kc) (hk : ¬ kc = 0)
    (hH : ∀ fr lo : Nat, cX l D cB cI cJ ad 128 (pl ad cB cI cJ A V R L) y1 ws1 fr lo As1 E0 → cH l D cB cI cJ ad 128 (pl ad cB cI cJ A V R L) yL wsL (fr + 1) (lo + 40) AsL (fun v M' => v = kc ∧ M' = pl ad cB cI cJ A V R L)) :
    HF l D cB cI cJ ad A V R L yL wsL AsL y3 ws3 As3 := by
  obtain ⟨fr, lo, hM, h1, h2, hR⟩ := h
  refine ⟨_, _, _, hH fr lo hM, by omega, by omega, fun v M q => ?_⟩
  obtain ⟨rfl, rfl⟩ := q
  exact ⟨0, A, V, R, L, rfl, fun q => absurd q hk, hR⟩
end
