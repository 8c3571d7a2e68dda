/-! a text that is read without fault leaves all well-formed -/
noncomputable section
def wfA (hv : Nat → Int32) (td : Int32) (cs : List Int32) (pf cf tf qf : Nat → Int32) : Prop :=
  ∃ a b c d : Nat, (a ≤ 4 ∧ hv 5 = nI a) ∧ (b ≤ 5 ∧ hv 6 = nI b) ∧ (c ≤ 12 ∧ hv 7 = nI c) ∧ (d ≤ 6 ∧ hv 8 = nI d) ∧ wfP a pf ∧ wfC b a cf ∧ wfT c b tf ∧ wfQ d qf ∧ ((td = 0 ∧ cs = []) ∨ (td = 1 ∧ rpS cs 0 31 1)) ∧ (∃ k : Nat, hv 10 = nI k ∧ k ≤ 10) ∧ ∃ k : Nat, hv 11 = nI k ∧ k ≤ 999
theorem wfC_up {a b : Nat} {cf : Nat → Int32} (h : wfC a b cf) : wfC a (b + 1) cf := fun c hc => by
  obtain ⟨⟨k, e1, e2⟩, r⟩ := h c hc
  exact ⟨⟨k, e1, by omega⟩, r⟩
theorem wfT_up {a b : Nat} {tf : Nat → Int32} (h : wfT a b tf) : wfT a (b + 1) tf := fun c hc => by
  obtain ⟨r1, r2, r3, ⟨k, e1, e2⟩, r⟩ := h c hc
  exact ⟨r1, r2, r3, ⟨k, e1, by omega⟩, r⟩
theorem wf_looks {en x : Nat} {bf hv : Nat → Int32} (h0 : s_X4_readLooks_1_2 en x 0 bf hv = 0) : ∃ u v : Nat, u ≤ 10 ∧ v ≤ 999 ∧ s_X4_readLooks_2_1 en x bf hv = upd (upd (upd hv 9 1) 10 (nI u)) 11 (nI v) := by
  have k0 := fkN_0 en bf
  unfold s_X4_readLooks_1_2 at h0
  unfold s_X4_readLooks_2_1
  by_cases c0 : hv 9 = 0
  · simp only [if_pos c0] at h0 ⊢
    by_cases c1 : s_X4_isNumber en (nX en bf x) bf 0 10 = 0
    · rw [if_pos c1] at h0; exact absurd h0 (k0 _)
    by_cases c2 : s_X4_isNumber en (nX en bf (nX en bf x)) bf 0 999 = 0
    · rw [if_neg c1, if_pos c2] at h0; exact absurd h0 (k0 _)
    simp only [if_neg c1, if_neg c2]
    obtain ⟨u, u1, -, u3⟩ := nm_b (L := 0) (H := 10) rfl rfl (by decide) (by decide) c1
    obtain ⟨v, v1, -, v3⟩ := nm_b (L := 0) (H := 999) rfl rfl (by decide) (by decide) c2
    exact ⟨u, v, u3, v3, by rw [u1, v1]⟩
  · rw [if_neg c0] at h0; exact absurd h0 (by decide)
theorem wf_line {en x : Nat} {bf hv : Nat → Int32} {td : Int32} {cs : List Int32} {pf cf tf qf : Nat → Int32} (hx : x ≤ en) (he : en ≤ 700) (h : wfA hv td cs pf cf tf qf) (h0 : s_X4_readLine_1_2 en x 0 bf hv (hv 7).toNatClampNeg cf tf qf td cs = 0) :
    wfA (s_X4_readLine_2_1 en x bf hv (hv 7).toNatClampNeg cf tf qf) (s_X4_readLine_7_2 en x bf td) (lCs en x bf td cs) (s_X4_readLine_3_f en x bf hv pf) (s_X4_readLine_4_f en x bf hv cf) (s_X4_readLine_5_f en x bf hv (hv 7).toNatClampNeg cf tf) (s_X4_readLine_6_f en x bf hv qf) := by
  obtain ⟨a, b, c, d, ⟨a4, ea⟩, ⟨b5, eb⟩, ⟨c12, ec⟩, ⟨d6, ed⟩, hP, hC, hT, hQ, hR, hl, hm⟩ := h
  unfold s_X4_readLine_1_2 at h0
  unfold s_X4_readLine_2_1 s_X4_readLine_7_2 lCs s_X4_readLine_3_f s_X4_readLine_4_f s_X4_readLine_5_f s_X4_readLine_6_f
  by_cases ck : wKd.getD (wX en bf x) 0 = -1
  · simp only [if_pos ck] at h0 ⊢
    by_cases c1 : wX en bf x = 1
    · simp only [if_pos c1] at h0 ⊢
      rw [if_neg (show ¬ wX en bf x = 12 by rw [c1]; decide)]
      obtain ⟨w1, w2, w3⟩ := wf_person ea a4 hP h0
      rw [w2]
      exact ⟨a + 1, b, c, d, ⟨by omega, pk_us⟩, ⟨b5, (pk_un (by decide)).trans eb⟩, ⟨c12, (pk_un (by decide)).trans ec⟩, ⟨d6, (pk_un (by decide)).trans ed⟩, w3, wfC_up hC, hT, hQ, hR, by rw [pk_un (by decide)]; exact hl, by rw [pk_un (by decide)]; exact hm⟩
    simp only [if_neg c1] at h0 ⊢
    by_cases c2 : wX en bf x = 2
    · simp only [if_pos c2] at h0 ⊢
      rw [if_neg (show ¬ wX en bf x = 12 by rw [c2]; decide)]
      obtain ⟨w1, w2, w3⟩ := wf_case eb b5 ea a4 hC h0
      rw [w2]
      exact ⟨a, b + 1, c, d, ⟨a4, (pk_un (by decide)).trans ea⟩, ⟨by omega, pk_us⟩, ⟨c12, (pk_un (by decide)).trans ec⟩, ⟨d6, (pk_un (by decide)).trans ed⟩, hP, w3, wfT_up hT, hQ, hR, by rw [pk_un (by decide)]; exact hl, by rw [pk_un (by decide)]; exact hm⟩
    simp only [if_neg c2] at h0 ⊢
    by_cases c3 : wX en bf x = 10
    · simp only [if_pos c3] at h0 ⊢
      rw [if_neg (show ¬ wX en bf x = 12 by rw [c3]; decide)]
      obtain ⟨w1, w2, w3⟩ := wf_post ed d6 hQ h0
      rw [w2]
      exact ⟨a, b, c, d + 1, ⟨a4, (pk_un (by decide)).trans ea⟩, ⟨b5, (pk_un (by decide)).trans eb⟩, ⟨c12, (pk_un (by decide)).trans ec⟩, ⟨by omega, pk_us⟩, hP, hC, hT, w3, hR, by rw [pk_un (by decide)]; exact hl, by rw [pk_un (by decide)]; exact hm⟩
    simp only [if_neg c3] at h0 ⊢
    by_cases c4 : wX en bf x = 11
    · simp only [if_pos c4] at h0 ⊢
      rw [if_neg (show ¬ wX en bf x = 12 by rw [c4]; decide)]
      obtain ⟨u, v, u1, v1, w2⟩ := wf_looks h0
      rw [w2]
      have q : ∀ j : Nat, j < 9 → upd (upd (upd hv 9 1) 10 (nI u)) 11 (nI v) j = hv j := fun j hj => by rw [pk_un (by omega), pk_un (by omega), pk_un (by omega)]
      exact ⟨a, b, c, d, ⟨a4, (q 5 (by decide)).trans ea⟩, ⟨b5, (q 6 (by decide)).trans eb⟩, ⟨c12, (q 7 (by decide)).trans ec⟩, ⟨d6, (q 8 (by decide)).trans ed⟩, hP, hC, hT, hQ, hR, ⟨u, (pk_un (by decide)).trans pk_us, u1⟩, ⟨v, pk_us, v1⟩⟩
    simp only [if_neg c4] at h0 ⊢
    by_cases c5 : wX en bf x = 12
    · simp only [if_pos c5] at h0 ⊢
      unfold s_X4_readFee_1_2 at h0
      unfold s_X4_readFee_2_2
      by_cases t0 : td = 0
      · simp only [if_pos t0] at h0 ⊢
        have hcs : cs = [] := hR.elim (fun q => q.2) (fun q => absurd (q.1.symm.trans t0) (by decide))
        subst hcs
        have f0 : (eE en bf 6 (nX en bf x) []).1 = 0 := by
          unfold flt at h0
          by_cases z : (eE en bf 6 (nX en bf x) []).1 = 0
          · exact z
          · rw [if_neg z] at h0; exact absurd h0 z
        exact ⟨a, b, c, d, ⟨a4, ea⟩, ⟨b5, eb⟩, ⟨c12, ec⟩, ⟨d6, ed⟩, hP, hC, hT, hQ, Or.inr ⟨rfl, eE_6 he (nX_le hx he) f0⟩, hl, hm⟩
      · rw [if_neg t0] at h0; exact absurd h0 (by decide)
    · rw [if_neg c5] at h0; exact absurd h0 (by decide)
  · simp only [if_neg ck] at h0 ⊢
    have c12' : ¬ wX en bf x = 12 := fun q => ck (by rw [q]; decide)
    rw [if_neg c12']
    obtain ⟨w1, w2, w3⟩ := wf_thing ec c12 eb b5 hT h0
    rw [w2]
    exact ⟨a, b, c + 1, d, ⟨a4, (pk_un (by decide)).trans ea⟩, ⟨b5, (pk_un (by decide)).trans eb⟩, ⟨by omega, pk_us⟩, ⟨d6, (pk_un (by decide)).trans ed⟩, hP, hC, w3, hQ, hR, by rw [pk_un (by decide)]; exact hl, by rw [pk_un (by decide)]; exact hm⟩
/-- over a whole text -/
def wfS (en : Nat) (s : RS) : Prop := s.2.1 ≤ en ∧ s.2.2.2.2.1.length ≤ s.2.1 ∧ wfA s.2.2.1 s.2.2.2.1 s.2.2.2.2.1 s.2.2.2.2.2.1 s.2.2.2.2.2.2.1 s.2.2.2.2.2.2.2.1 s.2.2.2.2.2.2.2.2
theorem wf_rl {en : Nat} {bf : Nat → Int32} (he : en ≤ 700) : ∀ (k : Nat) (s : RS), (s.1 = 0 → wfS en s) → (rlS en bf k s).1 = 0 → wfS en (rlS en bf k s)
  | 0, s, h, h0 => h h0
  | k + 1, (f, x, hv, td, cs, pf, cf, tf, qf), h, h0 => by
    by_cases c0 : f = 0
    · subst c0
      by_cases c1 : kX en bf x = 0
      · rw [rlS_end (s := (0, x, hv, td, cs, pf, cf, tf, qf)) c1] at h0 ⊢
        exact h rfl
      · rw [rlS_on (s := (0, x, hv, td, cs, pf, cf, tf, qf)) rfl c1] at h0 ⊢
        obtain ⟨hx, hl, hA⟩ := h rfl
        refine wf_rl he k _ (fun q => ?_) h0
        obtain ⟨e1, e2⟩ := rs_1 (en := en) (x := x) (bf := bf) (hv := hv) (td := td) (cs := cs) (pf := pf) (cf := cf) (tf := tf) (qf := qf)
        rw [e1] at q
        obtain ⟨x1, x2⟩ := lxLine (bf := bf) hv (hv 7).toNatClampNeg cf tf qf td cs hx he hl
        refine ⟨?_, ?_, ?_⟩
        · rw [e2, kX9_d]
          have := nX_le (bf := bf) x1 he
          (repeat' split) <;> omega
        · rw [e2]
          exact Nat.le_trans x2 (kx_ge x1 he)
        · exact wf_line hx he hA (kf_0 q).1
    · rw [rlS_bad (s := (f, x, hv, td, cs, pf, cf, tf, qf)) c0] at h0
      exact absurd h0 c0
theorem wf_read {en : Nat} {bf pf cf tf qf : Nat → Int32} (he : en ≤ 700) (h0 : (rdR en bf pf cf tf qf).1 = 0) : wfS en (rdR en bf pf cf tf qf) :=
  wf_rl he 700 _ (fun _ => ⟨Nat.zero_le _, Nat.le_refl _, 0, 0, 0, 0, ⟨by decide, rfl⟩, ⟨by decide, rfl⟩, ⟨by decide, rfl⟩, ⟨by decide, rfl⟩, fun p hp => absurd hp (Nat.not_lt_zero _), fun p hp => absurd hp (Nat.not_lt_zero _), fun p hp => absurd hp (Nat.not_lt_zero _), ⟨fun p hp => absurd hp (Nat.not_lt_zero _), fun p hp => absurd hp (Nat.not_lt_zero _)⟩, Or.inl ⟨rfl, rfl⟩, ⟨0, rfl, by decide⟩, ⟨0, rfl, by decide⟩⟩) h0
end
