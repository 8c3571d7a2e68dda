/-! a line, in the class and in the reference: one; all lines *-/
noncomputable section
def lkD (l td : Int32) : Int32 := (if l = 0 then 0 else 1) ||| (if td = 0 then 0 else 2)
theorem lk_1 {l td : Int32} : 1 &&& lkD l td = 0 ↔ l = 0 := by
  unfold lkD
  by_cases h : l = 0 <;> by_cases g : td = 0 <;> simp only [h, g, if_true, if_false] <;> decide
theorem lk_2 {l td : Int32} : 2 &&& lkD l td = 0 ↔ td = 0 := by
  unfold lkD
  by_cases h : l = 0 <;> by_cases g : td = 0 <;> simp only [h, g, if_true, if_false] <;> decide
theorem lk_s1 {l td : Int32} : lkD l td ||| 1 = lkD 1 td := by
  unfold lkD
  by_cases h : l = 0 <;> by_cases g : td = 0 <;> simp only [h, g, if_true, if_false] <;> decide
theorem lk_s2 {l td : Int32} : lkD l td ||| 2 = lkD l 1 := by
  unfold lkD
  by_cases h : l = 0 <;> by_cases g : td = 0 <;> simp only [h, g, if_true, if_false] <;> decide
theorem or_z (x : Int32) : x ||| 0 = x := by first | exact Int32.or_zero | simp
theorem wh_K (en : Nat) (bf : Nat → Int32) (x : Nat) : s_X13_which en x bf 0 6 kdI = wKd.getD (wX en bf x) 0 := by
  have hlt := wX_lt en bf x
  have e : ∀ w : Nat, w < 20 → (if (if w = 4 then (1 : Int32) else 0) = 0 then if (if w = 5 then (1 : Int32) else 0) = 0 then if (if w = 6 then (1 : Int32) else 0) = 0 then if (if w = 7 then (1 : Int32) else 0) = 0 then if (if w = 8 then (1 : Int32) else 0) = 0 then if (if w = 9 then (1 : Int32) else 0) = 0 then (-1 : Int32) else nI 5 else nI 4 else nI 3 else nI 2 else nI 1 else nI 0) = wKd.getD w 0 := by decide
  exact e _ hlt
theorem wd_0 (en : Nat) (bf : Nat → Int32) (x i : Nat) : wdR en bf 0 x i = 0 ↔ ¬ wX en bf x = i := by
  unfold wdR
  rw [if_pos rfl]
  by_cases h : wX en bf x = i
  · rw [if_pos h]; exact ⟨fun q => absurd q (by decide), fun q => absurd h q⟩
  · rw [if_neg h]; exact ⟨fun _ => h, fun _ => rfl⟩
def bdOK (a : Nat) (cf : Nat → Int32) : Prop := ∀ c : Nat, c < a → cf (5 * c + 4) = 0 ∨ cf (5 * c + 4) = 1
theorem bd_case {en x a : Nat} {bf hv cf : Nat → Int32} (h6 : hv 6 = nI a) (ha : a < 5) (hb : bdOK a cf) (h0 : s_X4_readCase_1_2 en x 0 bf hv = 0) : bdOK (a + 1) (s_X4_readCase_3_f en x bf hv cf) := by
  have hlt : hv 6 < 5 := by rw [h6]; exact nI_lt (b := 5) ha (by decide)
  have k0 := fkN_0 en bf
  have k1 := fkT_0 en
  have key : ∀ (g : Nat → Int32) (v : Int32), (∀ c : Nat, c < a → g (5 * c + 4) = cf (5 * c + 4)) → (v = 0 ∨ v = 1) → bdOK (a + 1) (tset 25 g (hv 6 * 5 + 4) v) := by
    intro g v hg hv' c hc
    rw [ts3 5 4 h6 5 4 rfl rfl (by omega) (by decide)]
    by_cases e : c = a
    · subst e; rw [upd_at9]; exact hv'
    · rw [un9 (show 5 * c + 4 ≠ 5 * a + 4 by omega), hg c (by omega)]; exact hb c (by omega)
  have t0 : ∀ (g : Nat → Int32) (r : Nat) (R v : Int32), R = nI r → r < 4 → (∀ c : Nat, c < a → g (5 * c + 4) = cf (5 * c + 4)) → ∀ c : Nat, c < a → (tset 25 g (hv 6 * 5 + R) v) (5 * c + 4) = cf (5 * c + 4) := by
    intro g r R v hR hr hg c hc
    rw [ts3 5 r h6 5 R rfl hR (by omega) (by decide), un9 (show 5 * c + 4 ≠ 5 * a + r by omega)]
    exact hg c hc
  unfold s_X4_readCase_1_2 at h0
  unfold s_X4_readCase_3_f
  rw [if_pos hlt] at h0 ⊢
  (repeat' split at h0) <;> (repeat' split) <;> first | (exfalso; first | exact k0 _ h0 | exact k1 _ _ h0) | contradiction | exact key _ _ (t0 _ 3 3 _ rfl (by decide) (t0 _ 2 2 _ rfl (by decide) (t0 _ 1 1 _ rfl (by decide) (t0 _ 0 0 _ rfl (by decide) (fun _ _ => rfl))))) (by first | exact Or.inl rfl | exact Or.inr rfl)
theorem ln_looks1 {en x : Nat} {bf hv : Nat → Int32} (h9 : hv 9 = 0) :
    gX en bf (gF en bf 0 (nX en bf x) 0 10) (gX en bf 0 (nX en bf x) 0 10) 0 999 = s_X4_readLooks_0_4 en x bf hv
    ∧ gF en bf (gF en bf 0 (nX en bf x) 0 10) (gX en bf 0 (nX en bf x) 0 10) 0 999 = s_X4_readLooks_1_2 en x 0 bf hv
    ∧ (s_X4_readLooks_1_2 en x 0 bf hv = 0 → s_X4_readLooks_2_1 en x bf hv = upd (upd (upd hv 9 1) 10 (gV en bf 0 (nX en bf x) 0 10)) 11 (gV en bf (gF en bf 0 (nX en bf x) 0 10) (gX en bf 0 (nX en bf x) 0 10) 0 999)) := by
  have k0 := fkN_0 en bf
  unfold s_X4_readLooks_0_4 s_X4_readLooks_1_2 s_X4_readLooks_2_1
  simp only [if_pos h9]
  by_cases h1 : s_X4_isNumber en (nX en bf x) bf 0 10 = 0
  · simp only [if_pos h1, (gn_bad h1).1, (gn_bad h1).2.1, (gn_k _).1, (gn_k _).2.1]
    exact ⟨trivial, trivial, fun q => absurd q (k0 _)⟩
  simp only [if_neg h1, (gn_ok h1).1, (gn_ok h1).2.1, (gn_ok h1).2.2]
  by_cases h2 : s_X4_isNumber en (nX en bf (nX en bf x)) bf 0 999 = 0
  · simp only [if_pos h2, (gn_bad h2).1, (gn_bad h2).2.1]
    exact ⟨trivial, trivial, fun q => absurd q (k0 _)⟩
  simp only [if_neg h2, (gn_ok h2).1, (gn_ok h2).2.1, (gn_ok h2).2.2]
  exact ⟨trivial, trivial, fun _ => trivial⟩
/-- what is alike in both, where nothing was wrong -/
def cQ (a0 a1 a2 a3 : Nat) (hv : Nat → Int32) (td : Int32) (cs : List Int32) (x : Nat) (pf cf tf qf : Nat → Int32) (dn : Int32) (toldF ownF pocketsF bearsF ownerF limitF holdsF costF boardF kindF heavyF unsureF wideF valueF hotF placeF postToF priceF : Nat → Int32) : Prop :=
  ((a0 ≤ 4 ∧ hv 5 = nI a0 ∧ toldF 7 = nI a0) ∧ (a1 ≤ 5 ∧ hv 6 = nI a1 ∧ toldF 8 = nI a1) ∧ (a2 ≤ 12 ∧ hv 7 = nI a2 ∧ toldF 9 = nI a2) ∧ (a3 ≤ 6 ∧ hv 8 = nI a3 ∧ toldF 10 = nI a3))
  ∧ (toldF 11 = hv 10 ∧ toldF 12 = hv 11 ∧ toldF 13 = nI cs.length ∧ dn = lkD (hv 9) td ∧ cs.length ≤ x)
  ∧ (cqP a0 pf ownF pocketsF bearsF ∧ (cqC a1 cf ownerF limitF holdsF costF boardF ∧ bdOK a1 cf) ∧ cqT a2 tf kindF heavyF unsureF wideF valueF placeF hotF ∧ cqQ a3 qf postToF priceF)
theorem rs_1 {en x : Nat} {bf hv : Nat → Int32} {td : Int32} {cs : List Int32} {pf cf tf qf : Nat → Int32} :
    (rlStep en bf (0, x, hv, td, cs, pf, cf, tf, qf)).1 = kF9 en bf (s_X4_readLine_1_2 en x 0 bf hv (hv 7).toNatClampNeg cf tf qf td cs) (s_X4_readLine_0_4 en x bf hv (hv 7).toNatClampNeg cf tf qf td cs) 59
    ∧ (rlStep en bf (0, x, hv, td, cs, pf, cf, tf, qf)).2.1 = kX9 en bf (s_X4_readLine_1_2 en x 0 bf hv (hv 7).toNatClampNeg cf tf qf td cs) (s_X4_readLine_0_4 en x bf hv (hv 7).toNatClampNeg cf tf qf td cs) 59 := by
  obtain ⟨l1, l2⟩ := lfLine en x 0 bf hv (hv 7).toNatClampNeg cf tf qf td cs
  rw [kF9_d, kX9_d]
  unfold rlStep
  simp only []
  generalize s_X4_readLine_0_4 en x bf hv (hv 7).toNatClampNeg cf tf qf td cs = xl
  unfold s_X4_takeLineEnd
  by_cases h : s_X4_readLine en x bf hv (hv 7).toNatClampNeg cf tf qf td cs = 0
  · simp only [if_pos h, if_neg (l2 h)]
    exact ⟨trivial, trivial⟩
  · simp only [if_neg h, l1 h, if_true]
    by_cases k : kX en bf xl = 59
    · simp only [if_pos k, if_neg (show ¬ (1 : Int32) = 0 by decide)]
      exact ⟨trivial, trivial⟩
    · simp only [if_neg k, if_true]
      exact ⟨trivial, trivial⟩
theorem kf_0 {en : Nat} {bf : Nat → Int32} {f z : Int32} {x : Nat} (h : kF9 en bf f x z = 0) : f = 0 ∧ kX en bf x = z := by
  rw [kF9_d] at h
  by_cases hf : f = 0
  · rw [if_pos hf] at h
    by_cases hk : kX en bf x = z
    · exact ⟨hf, hk⟩
    · rw [if_neg hk] at h; exact absurd h (by decide)
  · rw [if_neg hf] at h; exact absurd h hf
theorem kx_ge {en : Nat} {bf : Nat → Int32} {f z : Int32} {x : Nat} (hx : x ≤ en) (he : en ≤ 700) : x ≤ kX9 en bf f x z := by
  rw [kX9_d]
  have := nX_ge (bf := bf) hx he
  (repeat' split) <;> omega
theorem ln_1 {en x a0 a1 a2 a3 : Nat} {tapeF hv pf cf tf qf toldF ownF pocketsF bearsF ownerF limitF holdsF costF boardF kindF heavyF unsureF wideF valueF hotF placeF postToF priceF : Nat → Int32} {td dn nu : Int32} {cs : List Int32} (hx : x ≤ en) (he : en ≤ 700) (h : cQ a0 a1 a2 a3 hv td cs x pf cf tf qf dn toldF ownF pocketsF bearsF ownerF limitF holdsF costF boardF kindF heavyF unsureF wideF valueF hotF placeF postToF priceF) (hw : wX en tapeF x = 1) : (s_X13_readLineR_0_mf en x toldF tapeF holdsF boardF wideF placeF postToF nu cs a0 a1 a2 a3 dn) = kF9 en tapeF (s_X4_readLine_1_2 en x 0 tapeF hv (hv 7).toNatClampNeg cf tf qf td cs) (s_X4_readLine_0_4 en x tapeF hv (hv 7).toNatClampNeg cf tf qf td cs) 59 ∧ (s_X13_readLineR_0_mx en x toldF tapeF holdsF boardF wideF placeF postToF nu cs a0 a1 a2 a3 dn) = (kX9 en tapeF (s_X4_readLine_1_2 en x 0 tapeF hv (hv 7).toNatClampNeg cf tf qf td cs) (s_X4_readLine_0_4 en x tapeF hv (hv 7).toNatClampNeg cf tf qf td cs) 59) ∧ (kF9 en tapeF (s_X4_readLine_1_2 en x 0 tapeF hv (hv 7).toNatClampNeg cf tf qf td cs) (s_X4_readLine_0_4 en x tapeF hv (hv 7).toNatClampNeg cf tf qf td cs) 59 = 0 → ∃ b0 b1 b2 b3 : Nat, cQ b0 b1 b2 b3 (s_X4_readLine_2_1 en x tapeF hv (hv 7).toNatClampNeg cf tf qf) (s_X4_readLine_7_2 en x tapeF td) (lCs en x tapeF td cs) (kX9 en tapeF (s_X4_readLine_1_2 en x 0 tapeF hv (hv 7).toNatClampNeg cf tf qf td cs) (s_X4_readLine_0_4 en x tapeF hv (hv 7).toNatClampNeg cf tf qf td cs) 59) (s_X4_readLine_3_f en x tapeF hv pf) (s_X4_readLine_4_f en x tapeF hv cf) (s_X4_readLine_5_f en x tapeF hv (hv 7).toNatClampNeg cf tf) (s_X4_readLine_6_f en x tapeF hv qf) (s_X13_readLineR en x tapeF a0 a1 a2 a3 dn) (s_X13_readLineR_1_f en x toldF tapeF cs a0 a1 a2 a3 dn) (s_X13_readLineR_2_f en x tapeF ownF a0 a1 a2 a3 dn) (s_X13_readLineR_3_f en x tapeF pocketsF a0 a1 a2 a3 dn) (s_X13_readLineR_4_f en x tapeF bearsF a0 a1 a2 a3 dn) (s_X13_readLineR_5_f en x toldF tapeF ownerF a0 a1 a2 a3 dn) (s_X13_readLineR_6_f en x toldF tapeF limitF a0 a1 a2 a3 dn) (s_X13_readLineR_7_f en x toldF tapeF holdsF a0 a1 a2 a3 dn) (s_X13_readLineR_8_f en x toldF tapeF costF a0 a1 a2 a3 dn) (s_X13_readLineR_9_f en x toldF tapeF boardF a0 a1 a2 a3 dn) (s_X13_readLineR_10_f en x tapeF kindF a0 a1 a2 a3 dn) (s_X13_readLineR_11_f en x tapeF heavyF nu a0 a1 a2 a3 dn) (s_X13_readLineR_12_f en x tapeF unsureF nu a0 a1 a2 a3 dn) (s_X13_readLineR_13_f en x tapeF wideF nu a0 a1 a2 a3 dn) (s_X13_readLineR_14_f en x tapeF valueF nu a0 a1 a2 a3 dn) (s_X13_readLineR_15_f en x toldF tapeF holdsF boardF wideF hotF placeF nu a0 a1 a2 a3 dn) (s_X13_readLineR_16_f en x toldF tapeF placeF nu a0 a1 a2 a3 dn) (s_X13_readLineR_17_f en x tapeF postToF a0 a1 a2 a3 dn) (s_X13_readLineR_18_f en x tapeF postToF priceF a0 a1 a2 a3 dn)) := by
  obtain ⟨⟨⟨i0, j0, m0⟩, ⟨i1, j1, m1⟩, ⟨i2, j2, m2⟩, ⟨i3, j3, m3⟩⟩, ⟨n11, n12, n13, nd, nl⟩, ⟨hP, ⟨hC, hB⟩, hT, hQ⟩⟩ := h
  have w0 := wd_0 en tapeF x
  have hwk := wh_K en tapeF x
  have c11 : wdR en tapeF 0 x 11 = 0 := (w0 11).mpr (by rw [hw]; decide)
  have c12 : wdR en tapeF 0 x 12 = 0 := (w0 12).mpr (by rw [hw]; decide)
  have ck : wKd.getD (wX en tapeF x) 0 = -1 := by rw [hw]; decide
  have cs9 : s_X13_which en x tapeF 0 6 kdI = -1 := hwk.trans ck
  have c1 : ¬ wdR en tapeF 0 x 1 = 0 := fun q => (w0 1).mp q hw
  by_cases ha : a0 < 4
  · obtain ⟨r1, r2, r3, r4⟩ := ln_person (x := x) (bf := tapeF) (en := en) j0 ha hP
    have hge := (lx_p (bf := tapeF) hv hx he).1
    have hle := (lx_p (bf := tapeF) hv hx he).2
    simp only [s_X13_readLineR, s_X13_readLineR_0_mf, s_X13_readLineR_0_mx, s_X13_readLineR_1_f, s_X13_readLineR_2_f, s_X13_readLineR_3_f, s_X13_readLineR_4_f, s_X13_readLineR_5_f, s_X13_readLineR_6_f, s_X13_readLineR_7_f, s_X13_readLineR_8_f, s_X13_readLineR_9_f, s_X13_readLineR_10_f, s_X13_readLineR_11_f, s_X13_readLineR_12_f, s_X13_readLineR_13_f, s_X13_readLineR_14_f, s_X13_readLineR_15_f, s_X13_readLineR_16_f, s_X13_readLineR_17_f, s_X13_readLineR_18_f, s_X4_readLine_0_4, s_X4_readLine_1_2, s_X4_readLine_2_1, s_X4_readLine_7_2, s_X4_readLine_3_f, s_X4_readLine_4_f, s_X4_readLine_5_f, s_X4_readLine_6_f, lCs, if_pos c11, if_pos c12, if_pos cs9, if_neg c1, if_pos ck, if_neg (show ¬ wX en tapeF x = 2 by rw [hw]; decide), if_neg (show ¬ wX en tapeF x = 10 by rw [hw]; decide), if_neg (show ¬ wX en tapeF x = 11 by rw [hw]; decide), if_neg (show ¬ wX en tapeF x = 12 by rw [hw]; decide), if_pos hw, if_pos ha]
    rw [r1, r2]
    refine ⟨rfl, rfl, fun q => ?_⟩
    have hf := (kf_0 q).1
    rw [r3]
    exact ⟨a0 + 1, a1, a2, a3, ⟨⟨by omega, by rw [upd_at9, j0]; exact nI_1 _, by rw [upd_at9, m0]; exact nI_1 _⟩, ⟨i1, by rw [un9 (show 6 ≠ 5 by decide)]; exact j1, by rw [un9 (show 8 ≠ 7 by decide)]; exact m1⟩, ⟨i2, by rw [un9 (show 7 ≠ 5 by decide)]; exact j2, by rw [un9 (show 9 ≠ 7 by decide)]; exact m2⟩, ⟨i3, by rw [un9 (show 8 ≠ 5 by decide)]; exact j3, by rw [un9 (show 10 ≠ 7 by decide)]; exact m3⟩⟩, ⟨by rw [un9 (show 11 ≠ 7 by decide), un9 (show 10 ≠ 5 by decide)]; exact n11, by rw [un9 (show 12 ≠ 7 by decide), un9 (show 11 ≠ 5 by decide)]; exact n12, by rw [un9 (show 13 ≠ 7 by decide)]; exact n13, by rw [un9 (show 9 ≠ 5 by decide), or_z]; exact nd, Nat.le_trans nl (Nat.le_trans hge (kx_ge hle he))⟩, ⟨r4 hf, ⟨hC, hB⟩, hT, hQ⟩⟩
  · have ea : a0 = 4 := by omega
    have hn : ¬ hv 5 < 4 := by rw [j0, ea]; decide
    simp only [s_X13_readLineR, s_X13_readLineR_0_mf, s_X13_readLineR_0_mx, s_X13_readLineR_1_f, s_X13_readLineR_2_f, s_X13_readLineR_3_f, s_X13_readLineR_4_f, s_X13_readLineR_5_f, s_X13_readLineR_6_f, s_X13_readLineR_7_f, s_X13_readLineR_8_f, s_X13_readLineR_9_f, s_X13_readLineR_10_f, s_X13_readLineR_11_f, s_X13_readLineR_12_f, s_X13_readLineR_13_f, s_X13_readLineR_14_f, s_X13_readLineR_15_f, s_X13_readLineR_16_f, s_X13_readLineR_17_f, s_X13_readLineR_18_f, s_X4_readLine_0_4, s_X4_readLine_1_2, s_X4_readLine_2_1, s_X4_readLine_7_2, s_X4_readLine_3_f, s_X4_readLine_4_f, s_X4_readLine_5_f, s_X4_readLine_6_f, lCs, if_pos c11, if_pos c12, if_pos cs9, if_neg c1, if_pos ck, if_neg (show ¬ wX en tapeF x = 2 by rw [hw]; decide), if_neg (show ¬ wX en tapeF x = 10 by rw [hw]; decide), if_neg (show ¬ wX en tapeF x = 11 by rw [hw]; decide), if_neg (show ¬ wX en tapeF x = 12 by rw [hw]; decide), if_pos hw, if_neg ha, s_X4_readPerson_1_2, s_X4_readPerson_0_4, if_neg hn]
    exact ⟨trivial, trivial, fun q => absurd (kf_0 q).1 (by decide)⟩
theorem ln_2 {en x a0 a1 a2 a3 : Nat} {tapeF hv pf cf tf qf toldF ownF pocketsF bearsF ownerF limitF holdsF costF boardF kindF heavyF unsureF wideF valueF hotF placeF postToF priceF : Nat → Int32} {td dn nu : Int32} {cs : List Int32} (hx : x ≤ en) (he : en ≤ 700) (h : cQ a0 a1 a2 a3 hv td cs x pf cf tf qf dn toldF ownF pocketsF bearsF ownerF limitF holdsF costF boardF kindF heavyF unsureF wideF valueF hotF placeF postToF priceF) (hw : wX en tapeF x = 2) : (s_X13_readLineR_0_mf en x toldF tapeF holdsF boardF wideF placeF postToF nu cs a0 a1 a2 a3 dn) = kF9 en tapeF (s_X4_readLine_1_2 en x 0 tapeF hv (hv 7).toNatClampNeg cf tf qf td cs) (s_X4_readLine_0_4 en x tapeF hv (hv 7).toNatClampNeg cf tf qf td cs) 59 ∧ (s_X13_readLineR_0_mx en x toldF tapeF holdsF boardF wideF placeF postToF nu cs a0 a1 a2 a3 dn) = (kX9 en tapeF (s_X4_readLine_1_2 en x 0 tapeF hv (hv 7).toNatClampNeg cf tf qf td cs) (s_X4_readLine_0_4 en x tapeF hv (hv 7).toNatClampNeg cf tf qf td cs) 59) ∧ (kF9 en tapeF (s_X4_readLine_1_2 en x 0 tapeF hv (hv 7).toNatClampNeg cf tf qf td cs) (s_X4_readLine_0_4 en x tapeF hv (hv 7).toNatClampNeg cf tf qf td cs) 59 = 0 → ∃ b0 b1 b2 b3 : Nat, cQ b0 b1 b2 b3 (s_X4_readLine_2_1 en x tapeF hv (hv 7).toNatClampNeg cf tf qf) (s_X4_readLine_7_2 en x tapeF td) (lCs en x tapeF td cs) (kX9 en tapeF (s_X4_readLine_1_2 en x 0 tapeF hv (hv 7).toNatClampNeg cf tf qf td cs) (s_X4_readLine_0_4 en x tapeF hv (hv 7).toNatClampNeg cf tf qf td cs) 59) (s_X4_readLine_3_f en x tapeF hv pf) (s_X4_readLine_4_f en x tapeF hv cf) (s_X4_readLine_5_f en x tapeF hv (hv 7).toNatClampNeg cf tf) (s_X4_readLine_6_f en x tapeF hv qf) (s_X13_readLineR en x tapeF a0 a1 a2 a3 dn) (s_X13_readLineR_1_f en x toldF tapeF cs a0 a1 a2 a3 dn) (s_X13_readLineR_2_f en x tapeF ownF a0 a1 a2 a3 dn) (s_X13_readLineR_3_f en x tapeF pocketsF a0 a1 a2 a3 dn) (s_X13_readLineR_4_f en x tapeF bearsF a0 a1 a2 a3 dn) (s_X13_readLineR_5_f en x toldF tapeF ownerF a0 a1 a2 a3 dn) (s_X13_readLineR_6_f en x toldF tapeF limitF a0 a1 a2 a3 dn) (s_X13_readLineR_7_f en x toldF tapeF holdsF a0 a1 a2 a3 dn) (s_X13_readLineR_8_f en x toldF tapeF costF a0 a1 a2 a3 dn) (s_X13_readLineR_9_f en x toldF tapeF boardF a0 a1 a2 a3 dn) (s_X13_readLineR_10_f en x tapeF kindF a0 a1 a2 a3 dn) (s_X13_readLineR_11_f en x tapeF heavyF nu a0 a1 a2 a3 dn) (s_X13_readLineR_12_f en x tapeF unsureF nu a0 a1 a2 a3 dn) (s_X13_readLineR_13_f en x tapeF wideF nu a0 a1 a2 a3 dn) (s_X13_readLineR_14_f en x tapeF valueF nu a0 a1 a2 a3 dn) (s_X13_readLineR_15_f en x toldF tapeF holdsF boardF wideF hotF placeF nu a0 a1 a2 a3 dn) (s_X13_readLineR_16_f en x toldF tapeF placeF nu a0 a1 a2 a3 dn) (s_X13_readLineR_17_f en x tapeF postToF a0 a1 a2 a3 dn) (s_X13_readLineR_18_f en x tapeF postToF priceF a0 a1 a2 a3 dn)) := by
  obtain ⟨⟨⟨i0, j0, m0⟩, ⟨i1, j1, m1⟩, ⟨i2, j2, m2⟩, ⟨i3, j3, m3⟩⟩, ⟨n11, n12, n13, nd, nl⟩, ⟨hP, ⟨hC, hB⟩, hT, hQ⟩⟩ := h
  have w0 := wd_0 en tapeF x
  have hwk := wh_K en tapeF x
  have c11 : wdR en tapeF 0 x 11 = 0 := (w0 11).mpr (by rw [hw]; decide)
  have c12 : wdR en tapeF 0 x 12 = 0 := (w0 12).mpr (by rw [hw]; decide)
  have ck : wKd.getD (wX en tapeF x) 0 = -1 := by rw [hw]; decide
  have cs9 : s_X13_which en x tapeF 0 6 kdI = -1 := hwk.trans ck
  have c1 : wdR en tapeF 0 x 1 = 0 := (w0 1).mpr (by rw [hw]; decide)
  have c2 : ¬ wdR en tapeF 0 x 2 = 0 := fun q => (w0 2).mp q hw
  by_cases ha : a1 < 5
  · obtain ⟨r1, r2, r3, r4⟩ := ln_case (x := x) (bf := tapeF) (en := en) j1 ha (m0.trans j0.symm) hC
    have hge := (lx_c (bf := tapeF) hv hx he).1
    have hle := (lx_c (bf := tapeF) hv hx he).2
    simp only [s_X13_readLineR, s_X13_readLineR_0_mf, s_X13_readLineR_0_mx, s_X13_readLineR_1_f, s_X13_readLineR_2_f, s_X13_readLineR_3_f, s_X13_readLineR_4_f, s_X13_readLineR_5_f, s_X13_readLineR_6_f, s_X13_readLineR_7_f, s_X13_readLineR_8_f, s_X13_readLineR_9_f, s_X13_readLineR_10_f, s_X13_readLineR_11_f, s_X13_readLineR_12_f, s_X13_readLineR_13_f, s_X13_readLineR_14_f, s_X13_readLineR_15_f, s_X13_readLineR_16_f, s_X13_readLineR_17_f, s_X13_readLineR_18_f, s_X4_readLine_0_4, s_X4_readLine_1_2, s_X4_readLine_2_1, s_X4_readLine_7_2, s_X4_readLine_3_f, s_X4_readLine_4_f, s_X4_readLine_5_f, s_X4_readLine_6_f, lCs, if_pos c11, if_pos c12, if_pos cs9, if_pos c1, if_neg c2, if_pos ck, if_neg (show ¬ wX en tapeF x = 1 by rw [hw]; decide), if_neg (show ¬ wX en tapeF x = 10 by rw [hw]; decide), if_neg (show ¬ wX en tapeF x = 11 by rw [hw]; decide), if_neg (show ¬ wX en tapeF x = 12 by rw [hw]; decide), if_pos hw, if_pos ha]
    rw [r1, r2]
    refine ⟨rfl, rfl, fun q => ?_⟩
    have hf := (kf_0 q).1
    rw [r3]
    exact ⟨a0, a1 + 1, a2, a3, ⟨⟨i0, by rw [un9 (show 5 ≠ 6 by decide)]; exact j0, by rw [un9 (show 7 ≠ 8 by decide)]; exact m0⟩, ⟨by omega, by rw [upd_at9, j1]; exact nI_1 _, by rw [upd_at9, m1]; exact nI_1 _⟩, ⟨i2, by rw [un9 (show 7 ≠ 6 by decide)]; exact j2, by rw [un9 (show 9 ≠ 8 by decide)]; exact m2⟩, ⟨i3, by rw [un9 (show 8 ≠ 6 by decide)]; exact j3, by rw [un9 (show 10 ≠ 8 by decide)]; exact m3⟩⟩, ⟨by rw [un9 (show 11 ≠ 8 by decide), un9 (show 10 ≠ 6 by decide)]; exact n11, by rw [un9 (show 12 ≠ 8 by decide), un9 (show 11 ≠ 6 by decide)]; exact n12, by rw [un9 (show 13 ≠ 8 by decide)]; exact n13, by rw [un9 (show 9 ≠ 6 by decide), or_z]; exact nd, Nat.le_trans nl (Nat.le_trans hge (kx_ge hle he))⟩, ⟨hP, ⟨r4 hf, bd_case j1 ha hB hf⟩, hT, hQ⟩⟩
  · have ea : a1 = 5 := by omega
    have hn : ¬ hv 6 < 5 := by rw [j1, ea]; decide
    simp only [s_X13_readLineR, s_X13_readLineR_0_mf, s_X13_readLineR_0_mx, s_X13_readLineR_1_f, s_X13_readLineR_2_f, s_X13_readLineR_3_f, s_X13_readLineR_4_f, s_X13_readLineR_5_f, s_X13_readLineR_6_f, s_X13_readLineR_7_f, s_X13_readLineR_8_f, s_X13_readLineR_9_f, s_X13_readLineR_10_f, s_X13_readLineR_11_f, s_X13_readLineR_12_f, s_X13_readLineR_13_f, s_X13_readLineR_14_f, s_X13_readLineR_15_f, s_X13_readLineR_16_f, s_X13_readLineR_17_f, s_X13_readLineR_18_f, s_X4_readLine_0_4, s_X4_readLine_1_2, s_X4_readLine_2_1, s_X4_readLine_7_2, s_X4_readLine_3_f, s_X4_readLine_4_f, s_X4_readLine_5_f, s_X4_readLine_6_f, lCs, if_pos c11, if_pos c12, if_pos cs9, if_pos c1, if_neg c2, if_pos ck, if_neg (show ¬ wX en tapeF x = 1 by rw [hw]; decide), if_neg (show ¬ wX en tapeF x = 10 by rw [hw]; decide), if_neg (show ¬ wX en tapeF x = 11 by rw [hw]; decide), if_neg (show ¬ wX en tapeF x = 12 by rw [hw]; decide), if_pos hw, if_neg ha, s_X4_readCase_1_2, s_X4_readCase_0_4, if_neg hn]
    exact ⟨trivial, trivial, fun q => absurd (kf_0 q).1 (by decide)⟩
theorem ln_10 {en x a0 a1 a2 a3 : Nat} {tapeF hv pf cf tf qf toldF ownF pocketsF bearsF ownerF limitF holdsF costF boardF kindF heavyF unsureF wideF valueF hotF placeF postToF priceF : Nat → Int32} {td dn nu : Int32} {cs : List Int32} (hx : x ≤ en) (he : en ≤ 700) (h : cQ a0 a1 a2 a3 hv td cs x pf cf tf qf dn toldF ownF pocketsF bearsF ownerF limitF holdsF costF boardF kindF heavyF unsureF wideF valueF hotF placeF postToF priceF) (hw : wX en tapeF x = 10) : (s_X13_readLineR_0_mf en x toldF tapeF holdsF boardF wideF placeF postToF nu cs a0 a1 a2 a3 dn) = kF9 en tapeF (s_X4_readLine_1_2 en x 0 tapeF hv (hv 7).toNatClampNeg cf tf qf td cs) (s_X4_readLine_0_4 en x tapeF hv (hv 7).toNatClampNeg cf tf qf td cs) 59 ∧ (s_X13_readLineR_0_mx en x toldF tapeF holdsF boardF wideF placeF postToF nu cs a0 a1 a2 a3 dn) = (kX9 en tapeF (s_X4_readLine_1_2 en x 0 tapeF hv (hv 7).toNatClampNeg cf tf qf td cs) (s_X4_readLine_0_4 en x tapeF hv (hv 7).toNatClampNeg cf tf qf td cs) 59) ∧ (kF9 en tapeF (s_X4_readLine_1_2 en x 0 tapeF hv (hv 7).toNatClampNeg cf tf qf td cs) (s_X4_readLine_0_4 en x tapeF hv (hv 7).toNatClampNeg cf tf qf td cs) 59 = 0 → ∃ b0 b1 b2 b3 : Nat, cQ b0 b1 b2 b3 (s_X4_readLine_2_1 en x tapeF hv (hv 7).toNatClampNeg cf tf qf) (s_X4_readLine_7_2 en x tapeF td) (lCs en x tapeF td cs) (kX9 en tapeF (s_X4_readLine_1_2 en x 0 tapeF hv (hv 7).toNatClampNeg cf tf qf td cs) (s_X4_readLine_0_4 en x tapeF hv (hv 7).toNatClampNeg cf tf qf td cs) 59) (s_X4_readLine_3_f en x tapeF hv pf) (s_X4_readLine_4_f en x tapeF hv cf) (s_X4_readLine_5_f en x tapeF hv (hv 7).toNatClampNeg cf tf) (s_X4_readLine_6_f en x tapeF hv qf) (s_X13_readLineR en x tapeF a0 a1 a2 a3 dn) (s_X13_readLineR_1_f en x toldF tapeF cs a0 a1 a2 a3 dn) (s_X13_readLineR_2_f en x tapeF ownF a0 a1 a2 a3 dn) (s_X13_readLineR_3_f en x tapeF pocketsF a0 a1 a2 a3 dn) (s_X13_readLineR_4_f en x tapeF bearsF a0 a1 a2 a3 dn) (s_X13_readLineR_5_f en x toldF tapeF ownerF a0 a1 a2 a3 dn) (s_X13_readLineR_6_f en x toldF tapeF limitF a0 a1 a2 a3 dn) (s_X13_readLineR_7_f en x toldF tapeF holdsF a0 a1 a2 a3 dn) (s_X13_readLineR_8_f en x toldF tapeF costF a0 a1 a2 a3 dn) (s_X13_readLineR_9_f en x toldF tapeF boardF a0 a1 a2 a3 dn) (s_X13_readLineR_10_f en x tapeF kindF a0 a1 a2 a3 dn) (s_X13_readLineR_11_f en x tapeF heavyF nu a0 a1 a2 a3 dn) (s_X13_readLineR_12_f en x tapeF unsureF nu a0 a1 a2 a3 dn) (s_X13_readLineR_13_f en x tapeF wideF nu a0 a1 a2 a3 dn) (s_X13_readLineR_14_f en x tapeF valueF nu a0 a1 a2 a3 dn) (s_X13_readLineR_15_f en x toldF tapeF holdsF boardF wideF hotF placeF nu a0 a1 a2 a3 dn) (s_X13_readLineR_16_f en x toldF tapeF placeF nu a0 a1 a2 a3 dn) (s_X13_readLineR_17_f en x tapeF postToF a0 a1 a2 a3 dn) (s_X13_readLineR_18_f en x tapeF postToF priceF a0 a1 a2 a3 dn)) := by
  obtain ⟨⟨⟨i0, j0, m0⟩, ⟨i1, j1, m1⟩, ⟨i2, j2, m2⟩, ⟨i3, j3, m3⟩⟩, ⟨n11, n12, n13, nd, nl⟩, ⟨hP, ⟨hC, hB⟩, hT, hQ⟩⟩ := h
  have w0 := wd_0 en tapeF x
  have hwk := wh_K en tapeF x
  have c11 : wdR en tapeF 0 x 11 = 0 := (w0 11).mpr (by rw [hw]; decide)
  have c12 : wdR en tapeF 0 x 12 = 0 := (w0 12).mpr (by rw [hw]; decide)
  have ck : wKd.getD (wX en tapeF x) 0 = -1 := by rw [hw]; decide
  have cs9 : s_X13_which en x tapeF 0 6 kdI = -1 := hwk.trans ck
  have c1 : wdR en tapeF 0 x 1 = 0 := (w0 1).mpr (by rw [hw]; decide)
  have c2 : wdR en tapeF 0 x 2 = 0 := (w0 2).mpr (by rw [hw]; decide)
  have c10 : ¬ wdR en tapeF 0 x 10 = 0 := fun q => (w0 10).mp q hw
  by_cases ha : a3 < 6
  · obtain ⟨r1, r2, r3, r4⟩ := ln_post (x := x) (bf := tapeF) (en := en) j3 ha hQ
    have hge := (lx_q (bf := tapeF) hv qf hx he).1
    have hle := (lx_q (bf := tapeF) hv qf hx he).2
    simp only [s_X13_readLineR, s_X13_readLineR_0_mf, s_X13_readLineR_0_mx, s_X13_readLineR_1_f, s_X13_readLineR_2_f, s_X13_readLineR_3_f, s_X13_readLineR_4_f, s_X13_readLineR_5_f, s_X13_readLineR_6_f, s_X13_readLineR_7_f, s_X13_readLineR_8_f, s_X13_readLineR_9_f, s_X13_readLineR_10_f, s_X13_readLineR_11_f, s_X13_readLineR_12_f, s_X13_readLineR_13_f, s_X13_readLineR_14_f, s_X13_readLineR_15_f, s_X13_readLineR_16_f, s_X13_readLineR_17_f, s_X13_readLineR_18_f, s_X4_readLine_0_4, s_X4_readLine_1_2, s_X4_readLine_2_1, s_X4_readLine_7_2, s_X4_readLine_3_f, s_X4_readLine_4_f, s_X4_readLine_5_f, s_X4_readLine_6_f, lCs, if_pos c11, if_pos c12, if_pos cs9, if_pos c1, if_pos c2, if_neg c10, if_pos ck, if_neg (show ¬ wX en tapeF x = 1 by rw [hw]; decide), if_neg (show ¬ wX en tapeF x = 2 by rw [hw]; decide), if_neg (show ¬ wX en tapeF x = 11 by rw [hw]; decide), if_neg (show ¬ wX en tapeF x = 12 by rw [hw]; decide), if_pos hw, if_pos ha]
    rw [r1, r2]
    refine ⟨rfl, rfl, fun q => ?_⟩
    have hf := (kf_0 q).1
    rw [r3]
    exact ⟨a0, a1, a2, a3 + 1, ⟨⟨i0, by rw [un9 (show 5 ≠ 8 by decide)]; exact j0, by rw [un9 (show 7 ≠ 10 by decide)]; exact m0⟩, ⟨i1, by rw [un9 (show 6 ≠ 8 by decide)]; exact j1, by rw [un9 (show 8 ≠ 10 by decide)]; exact m1⟩, ⟨i2, by rw [un9 (show 7 ≠ 8 by decide)]; exact j2, by rw [un9 (show 9 ≠ 10 by decide)]; exact m2⟩, ⟨by omega, by rw [upd_at9, j3]; exact nI_1 _, by rw [upd_at9, m3]; exact nI_1 _⟩⟩, ⟨by rw [un9 (show 11 ≠ 10 by decide), un9 (show 10 ≠ 8 by decide)]; exact n11, by rw [un9 (show 12 ≠ 10 by decide), un9 (show 11 ≠ 8 by decide)]; exact n12, by rw [un9 (show 13 ≠ 10 by decide)]; exact n13, by rw [un9 (show 9 ≠ 8 by decide), or_z]; exact nd, Nat.le_trans nl (Nat.le_trans hge (kx_ge hle he))⟩, ⟨hP, ⟨hC, hB⟩, hT, r4 hf⟩⟩
  · have ea : a3 = 6 := by omega
    have hn : ¬ hv 8 < 6 := by rw [j3, ea]; decide
    simp only [s_X13_readLineR, s_X13_readLineR_0_mf, s_X13_readLineR_0_mx, s_X13_readLineR_1_f, s_X13_readLineR_2_f, s_X13_readLineR_3_f, s_X13_readLineR_4_f, s_X13_readLineR_5_f, s_X13_readLineR_6_f, s_X13_readLineR_7_f, s_X13_readLineR_8_f, s_X13_readLineR_9_f, s_X13_readLineR_10_f, s_X13_readLineR_11_f, s_X13_readLineR_12_f, s_X13_readLineR_13_f, s_X13_readLineR_14_f, s_X13_readLineR_15_f, s_X13_readLineR_16_f, s_X13_readLineR_17_f, s_X13_readLineR_18_f, s_X4_readLine_0_4, s_X4_readLine_1_2, s_X4_readLine_2_1, s_X4_readLine_7_2, s_X4_readLine_3_f, s_X4_readLine_4_f, s_X4_readLine_5_f, s_X4_readLine_6_f, lCs, if_pos c11, if_pos c12, if_pos cs9, if_pos c1, if_pos c2, if_neg c10, if_pos ck, if_neg (show ¬ wX en tapeF x = 1 by rw [hw]; decide), if_neg (show ¬ wX en tapeF x = 2 by rw [hw]; decide), if_neg (show ¬ wX en tapeF x = 11 by rw [hw]; decide), if_neg (show ¬ wX en tapeF x = 12 by rw [hw]; decide), if_pos hw, if_neg ha, s_X4_readPost_1_2, s_X4_readPost_0_4, if_neg hn]
    exact ⟨trivial, trivial, fun q => absurd (kf_0 q).1 (by decide)⟩
theorem ln_11 {en x a0 a1 a2 a3 : Nat} {tapeF hv pf cf tf qf toldF ownF pocketsF bearsF ownerF limitF holdsF costF boardF kindF heavyF unsureF wideF valueF hotF placeF postToF priceF : Nat → Int32} {td dn nu : Int32} {cs : List Int32} (hx : x ≤ en) (he : en ≤ 700) (h : cQ a0 a1 a2 a3 hv td cs x pf cf tf qf dn toldF ownF pocketsF bearsF ownerF limitF holdsF costF boardF kindF heavyF unsureF wideF valueF hotF placeF postToF priceF) (hw : wX en tapeF x = 11) : (s_X13_readLineR_0_mf en x toldF tapeF holdsF boardF wideF placeF postToF nu cs a0 a1 a2 a3 dn) = kF9 en tapeF (s_X4_readLine_1_2 en x 0 tapeF hv (hv 7).toNatClampNeg cf tf qf td cs) (s_X4_readLine_0_4 en x tapeF hv (hv 7).toNatClampNeg cf tf qf td cs) 59 ∧ (s_X13_readLineR_0_mx en x toldF tapeF holdsF boardF wideF placeF postToF nu cs a0 a1 a2 a3 dn) = (kX9 en tapeF (s_X4_readLine_1_2 en x 0 tapeF hv (hv 7).toNatClampNeg cf tf qf td cs) (s_X4_readLine_0_4 en x tapeF hv (hv 7).toNatClampNeg cf tf qf td cs) 59) ∧ (kF9 en tapeF (s_X4_readLine_1_2 en x 0 tapeF hv (hv 7).toNatClampNeg cf tf qf td cs) (s_X4_readLine_0_4 en x tapeF hv (hv 7).toNatClampNeg cf tf qf td cs) 59 = 0 → ∃ b0 b1 b2 b3 : Nat, cQ b0 b1 b2 b3 (s_X4_readLine_2_1 en x tapeF hv (hv 7).toNatClampNeg cf tf qf) (s_X4_readLine_7_2 en x tapeF td) (lCs en x tapeF td cs) (kX9 en tapeF (s_X4_readLine_1_2 en x 0 tapeF hv (hv 7).toNatClampNeg cf tf qf td cs) (s_X4_readLine_0_4 en x tapeF hv (hv 7).toNatClampNeg cf tf qf td cs) 59) (s_X4_readLine_3_f en x tapeF hv pf) (s_X4_readLine_4_f en x tapeF hv cf) (s_X4_readLine_5_f en x tapeF hv (hv 7).toNatClampNeg cf tf) (s_X4_readLine_6_f en x tapeF hv qf) (s_X13_readLineR en x tapeF a0 a1 a2 a3 dn) (s_X13_readLineR_1_f en x toldF tapeF cs a0 a1 a2 a3 dn) (s_X13_readLineR_2_f en x tapeF ownF a0 a1 a2 a3 dn) (s_X13_readLineR_3_f en x tapeF pocketsF a0 a1 a2 a3 dn) (s_X13_readLineR_4_f en x tapeF bearsF a0 a1 a2 a3 dn) (s_X13_readLineR_5_f en x toldF tapeF ownerF a0 a1 a2 a3 dn) (s_X13_readLineR_6_f en x toldF tapeF limitF a0 a1 a2 a3 dn) (s_X13_readLineR_7_f en x toldF tapeF holdsF a0 a1 a2 a3 dn) (s_X13_readLineR_8_f en x toldF tapeF costF a0 a1 a2 a3 dn) (s_X13_readLineR_9_f en x toldF tapeF boardF a0 a1 a2 a3 dn) (s_X13_readLineR_10_f en x tapeF kindF a0 a1 a2 a3 dn) (s_X13_readLineR_11_f en x tapeF heavyF nu a0 a1 a2 a3 dn) (s_X13_readLineR_12_f en x tapeF unsureF nu a0 a1 a2 a3 dn) (s_X13_readLineR_13_f en x tapeF wideF nu a0 a1 a2 a3 dn) (s_X13_readLineR_14_f en x tapeF valueF nu a0 a1 a2 a3 dn) (s_X13_readLineR_15_f en x toldF tapeF holdsF boardF wideF hotF placeF nu a0 a1 a2 a3 dn) (s_X13_readLineR_16_f en x toldF tapeF placeF nu a0 a1 a2 a3 dn) (s_X13_readLineR_17_f en x tapeF postToF a0 a1 a2 a3 dn) (s_X13_readLineR_18_f en x tapeF postToF priceF a0 a1 a2 a3 dn)) := by
  obtain ⟨⟨⟨i0, j0, m0⟩, ⟨i1, j1, m1⟩, ⟨i2, j2, m2⟩, ⟨i3, j3, m3⟩⟩, ⟨n11, n12, n13, nd, nl⟩, ⟨hP, ⟨hC, hB⟩, hT, hQ⟩⟩ := h
  have w0 := wd_0 en tapeF x
  have hwk := wh_K en tapeF x
  have c11 : ¬ wdR en tapeF 0 x 11 = 0 := fun q => (w0 11).mp q hw
  have ck : wKd.getD (wX en tapeF x) 0 = -1 := by rw [hw]; decide
  have cs9 : s_X13_which en x tapeF 0 6 kdI = -1 := hwk.trans ck
  have c1 : wdR en tapeF 0 x 1 = 0 := (w0 1).mpr (by rw [hw]; decide)
  have c2 : wdR en tapeF 0 x 2 = 0 := (w0 2).mpr (by rw [hw]; decide)
  have c10 : wdR en tapeF 0 x 10 = 0 := (w0 10).mpr (by rw [hw]; decide)
  by_cases h9 : hv 9 = 0
  · have cd : 1 &&& dn = 0 := by rw [nd]; exact lk_1.mpr h9
    obtain ⟨r1, r2, r3⟩ := ln_looks1 (x := x) (bf := tapeF) (en := en) h9
    have hge := (lx_l (bf := tapeF) hv hx he).1
    have hle := (lx_l (bf := tapeF) hv hx he).2
    simp only [s_X13_readLineR, s_X13_readLineR_0_mf, s_X13_readLineR_0_mx, s_X13_readLineR_1_f, s_X13_readLineR_2_f, s_X13_readLineR_3_f, s_X13_readLineR_4_f, s_X13_readLineR_5_f, s_X13_readLineR_6_f, s_X13_readLineR_7_f, s_X13_readLineR_8_f, s_X13_readLineR_9_f, s_X13_readLineR_10_f, s_X13_readLineR_11_f, s_X13_readLineR_12_f, s_X13_readLineR_13_f, s_X13_readLineR_14_f, s_X13_readLineR_15_f, s_X13_readLineR_16_f, s_X13_readLineR_17_f, s_X13_readLineR_18_f, s_X4_readLine_0_4, s_X4_readLine_1_2, s_X4_readLine_2_1, s_X4_readLine_7_2, s_X4_readLine_3_f, s_X4_readLine_4_f, s_X4_readLine_5_f, s_X4_readLine_6_f, lCs, if_neg c11, if_pos ck, if_neg (show ¬ wX en tapeF x = 1 by rw [hw]; decide), if_neg (show ¬ wX en tapeF x = 2 by rw [hw]; decide), if_neg (show ¬ wX en tapeF x = 10 by rw [hw]; decide), if_neg (show ¬ wX en tapeF x = 12 by rw [hw]; decide), if_pos hw, if_pos cd]
    rw [r1, r2]
    refine ⟨rfl, rfl, fun q => ?_⟩
    have hf := (kf_0 q).1
    rw [r3 hf]
    exact ⟨a0, a1, a2, a3, ⟨⟨i0, by rw [un9 (show 5 ≠ 11 by decide), un9 (show 5 ≠ 10 by decide), un9 (show 5 ≠ 9 by decide)]; exact j0, by rw [un9 (show 7 ≠ 12 by decide), un9 (show 7 ≠ 11 by decide)]; exact m0⟩, ⟨i1, by rw [un9 (show 6 ≠ 11 by decide), un9 (show 6 ≠ 10 by decide), un9 (show 6 ≠ 9 by decide)]; exact j1, by rw [un9 (show 8 ≠ 12 by decide), un9 (show 8 ≠ 11 by decide)]; exact m1⟩, ⟨i2, by rw [un9 (show 7 ≠ 11 by decide), un9 (show 7 ≠ 10 by decide), un9 (show 7 ≠ 9 by decide)]; exact j2, by rw [un9 (show 9 ≠ 12 by decide), un9 (show 9 ≠ 11 by decide)]; exact m2⟩, ⟨i3, by rw [un9 (show 8 ≠ 11 by decide), un9 (show 8 ≠ 10 by decide), un9 (show 8 ≠ 9 by decide)]; exact j3, by rw [un9 (show 10 ≠ 12 by decide), un9 (show 10 ≠ 11 by decide)]; exact m3⟩⟩, ⟨by rw [un9 (show 11 ≠ 12 by decide), upd_at9, un9 (show 10 ≠ 11 by decide), upd_at9], by rw [upd_at9, upd_at9], by rw [un9 (show 13 ≠ 12 by decide), un9 (show 13 ≠ 11 by decide)]; exact n13, by rw [nd, lk_s1, un9 (show 9 ≠ 11 by decide), un9 (show 9 ≠ 10 by decide), upd_at9], Nat.le_trans nl (Nat.le_trans hge (kx_ge hle he))⟩, ⟨hP, ⟨hC, hB⟩, hT, hQ⟩⟩
  · have cd : ¬ 1 &&& dn = 0 := by rw [nd]; exact fun q => h9 (lk_1.mp q)
    have g5 := fun (y : Nat) (z1 z2 : Int32) => gn_f (en := en) (bf := tapeF) (x := y) (z1 := z1) (z2 := z2) (show ¬ (5 : Int32) = 0 by decide)
    simp only [s_X13_readLineR, s_X13_readLineR_0_mf, s_X13_readLineR_0_mx, s_X13_readLineR_1_f, s_X13_readLineR_2_f, s_X13_readLineR_3_f, s_X13_readLineR_4_f, s_X13_readLineR_5_f, s_X13_readLineR_6_f, s_X13_readLineR_7_f, s_X13_readLineR_8_f, s_X13_readLineR_9_f, s_X13_readLineR_10_f, s_X13_readLineR_11_f, s_X13_readLineR_12_f, s_X13_readLineR_13_f, s_X13_readLineR_14_f, s_X13_readLineR_15_f, s_X13_readLineR_16_f, s_X13_readLineR_17_f, s_X13_readLineR_18_f, s_X4_readLine_0_4, s_X4_readLine_1_2, s_X4_readLine_2_1, s_X4_readLine_7_2, s_X4_readLine_3_f, s_X4_readLine_4_f, s_X4_readLine_5_f, s_X4_readLine_6_f, lCs, if_neg c11, if_pos ck, if_neg (show ¬ wX en tapeF x = 1 by rw [hw]; decide), if_neg (show ¬ wX en tapeF x = 2 by rw [hw]; decide), if_neg (show ¬ wX en tapeF x = 10 by rw [hw]; decide), if_neg (show ¬ wX en tapeF x = 12 by rw [hw]; decide), if_pos hw, if_neg cd, s_X4_readLooks_1_2, s_X4_readLooks_0_4, if_neg h9, (g5 _ _ _).1, (g5 _ _ _).2.1]
    exact ⟨trivial, trivial, fun q => absurd (kf_0 q).1 (by decide)⟩
theorem ln_12 {en x a0 a1 a2 a3 : Nat} {tapeF hv pf cf tf qf toldF ownF pocketsF bearsF ownerF limitF holdsF costF boardF kindF heavyF unsureF wideF valueF hotF placeF postToF priceF : Nat → Int32} {td dn nu : Int32} {cs : List Int32} (hx : x ≤ en) (he : en ≤ 700) (h : cQ a0 a1 a2 a3 hv td cs x pf cf tf qf dn toldF ownF pocketsF bearsF ownerF limitF holdsF costF boardF kindF heavyF unsureF wideF valueF hotF placeF postToF priceF) (hw : wX en tapeF x = 12) : (s_X13_readLineR_0_mf en x toldF tapeF holdsF boardF wideF placeF postToF nu cs a0 a1 a2 a3 dn) = kF9 en tapeF (s_X4_readLine_1_2 en x 0 tapeF hv (hv 7).toNatClampNeg cf tf qf td cs) (s_X4_readLine_0_4 en x tapeF hv (hv 7).toNatClampNeg cf tf qf td cs) 59 ∧ (s_X13_readLineR_0_mx en x toldF tapeF holdsF boardF wideF placeF postToF nu cs a0 a1 a2 a3 dn) = (kX9 en tapeF (s_X4_readLine_1_2 en x 0 tapeF hv (hv 7).toNatClampNeg cf tf qf td cs) (s_X4_readLine_0_4 en x tapeF hv (hv 7).toNatClampNeg cf tf qf td cs) 59) ∧ (kF9 en tapeF (s_X4_readLine_1_2 en x 0 tapeF hv (hv 7).toNatClampNeg cf tf qf td cs) (s_X4_readLine_0_4 en x tapeF hv (hv 7).toNatClampNeg cf tf qf td cs) 59 = 0 → ∃ b0 b1 b2 b3 : Nat, cQ b0 b1 b2 b3 (s_X4_readLine_2_1 en x tapeF hv (hv 7).toNatClampNeg cf tf qf) (s_X4_readLine_7_2 en x tapeF td) (lCs en x tapeF td cs) (kX9 en tapeF (s_X4_readLine_1_2 en x 0 tapeF hv (hv 7).toNatClampNeg cf tf qf td cs) (s_X4_readLine_0_4 en x tapeF hv (hv 7).toNatClampNeg cf tf qf td cs) 59) (s_X4_readLine_3_f en x tapeF hv pf) (s_X4_readLine_4_f en x tapeF hv cf) (s_X4_readLine_5_f en x tapeF hv (hv 7).toNatClampNeg cf tf) (s_X4_readLine_6_f en x tapeF hv qf) (s_X13_readLineR en x tapeF a0 a1 a2 a3 dn) (s_X13_readLineR_1_f en x toldF tapeF cs a0 a1 a2 a3 dn) (s_X13_readLineR_2_f en x tapeF ownF a0 a1 a2 a3 dn) (s_X13_readLineR_3_f en x tapeF pocketsF a0 a1 a2 a3 dn) (s_X13_readLineR_4_f en x tapeF bearsF a0 a1 a2 a3 dn) (s_X13_readLineR_5_f en x toldF tapeF ownerF a0 a1 a2 a3 dn) (s_X13_readLineR_6_f en x toldF tapeF limitF a0 a1 a2 a3 dn) (s_X13_readLineR_7_f en x toldF tapeF holdsF a0 a1 a2 a3 dn) (s_X13_readLineR_8_f en x toldF tapeF costF a0 a1 a2 a3 dn) (s_X13_readLineR_9_f en x toldF tapeF boardF a0 a1 a2 a3 dn) (s_X13_readLineR_10_f en x tapeF kindF a0 a1 a2 a3 dn) (s_X13_readLineR_11_f en x tapeF heavyF nu a0 a1 a2 a3 dn) (s_X13_readLineR_12_f en x tapeF unsureF nu a0 a1 a2 a3 dn) (s_X13_readLineR_13_f en x tapeF wideF nu a0 a1 a2 a3 dn) (s_X13_readLineR_14_f en x tapeF valueF nu a0 a1 a2 a3 dn) (s_X13_readLineR_15_f en x toldF tapeF holdsF boardF wideF hotF placeF nu a0 a1 a2 a3 dn) (s_X13_readLineR_16_f en x toldF tapeF placeF nu a0 a1 a2 a3 dn) (s_X13_readLineR_17_f en x tapeF postToF a0 a1 a2 a3 dn) (s_X13_readLineR_18_f en x tapeF postToF priceF a0 a1 a2 a3 dn)) := by
  obtain ⟨⟨⟨i0, j0, m0⟩, ⟨i1, j1, m1⟩, ⟨i2, j2, m2⟩, ⟨i3, j3, m3⟩⟩, ⟨n11, n12, n13, nd, nl⟩, ⟨hP, ⟨hC, hB⟩, hT, hQ⟩⟩ := h
  have w0 := wd_0 en tapeF x
  have hwk := wh_K en tapeF x
  have c11 : wdR en tapeF 0 x 11 = 0 := (w0 11).mpr (by rw [hw]; decide)
  have c12 : ¬ wdR en tapeF 0 x 12 = 0 := fun q => (w0 12).mp q hw
  have ck : wKd.getD (wX en tapeF x) 0 = -1 := by rw [hw]; decide
  have cs9 : s_X13_which en x tapeF 0 6 kdI = -1 := hwk.trans ck
  have c1 : wdR en tapeF 0 x 1 = 0 := (w0 1).mpr (by rw [hw]; decide)
  have c2 : wdR en tapeF 0 x 2 = 0 := (w0 2).mpr (by rw [hw]; decide)
  have c10 : wdR en tapeF 0 x 10 = 0 := (w0 10).mpr (by rw [hw]; decide)
  by_cases h9 : td = 0
  · have cd : 2 &&& dn = 0 := by rw [nd]; exact lk_2.mpr h9
    obtain ⟨r1, r2, r3⟩ := mE_3 (en := en) (bf := tapeF) 6 (nX en tapeF x) cs
    obtain ⟨b1, b2, b3⟩ := eE_B (bf := tapeF) he 6 (nX en tapeF x) cs (nX_le hx he)
    have hfl : flt 0 (eE en tapeF 6 (nX en tapeF x) cs).1 = (eE en tapeF 6 (nX en tapeF x) cs).1 := by unfold flt; split <;> first | (rename_i q; exact q.symm) | rfl
    have hgt := wX_gt (bf := tapeF) hx he (by rw [hw]; decide)
    simp only [s_X13_readLineR, s_X13_readLineR_0_mf, s_X13_readLineR_0_mx, s_X13_readLineR_1_f, s_X13_readLineR_2_f, s_X13_readLineR_3_f, s_X13_readLineR_4_f, s_X13_readLineR_5_f, s_X13_readLineR_6_f, s_X13_readLineR_7_f, s_X13_readLineR_8_f, s_X13_readLineR_9_f, s_X13_readLineR_10_f, s_X13_readLineR_11_f, s_X13_readLineR_12_f, s_X13_readLineR_13_f, s_X13_readLineR_14_f, s_X13_readLineR_15_f, s_X13_readLineR_16_f, s_X13_readLineR_17_f, s_X13_readLineR_18_f, s_X4_readLine_0_4, s_X4_readLine_1_2, s_X4_readLine_2_1, s_X4_readLine_7_2, s_X4_readLine_3_f, s_X4_readLine_4_f, s_X4_readLine_5_f, s_X4_readLine_6_f, lCs, if_pos c11, if_neg c12, if_pos ck, if_neg (show ¬ wX en tapeF x = 1 by rw [hw]; decide), if_neg (show ¬ wX en tapeF x = 2 by rw [hw]; decide), if_neg (show ¬ wX en tapeF x = 10 by rw [hw]; decide), if_neg (show ¬ wX en tapeF x = 11 by rw [hw]; decide), if_pos hw, if_pos cd, s_X4_readFee_1_2, s_X4_readFee_0_4, s_X4_readFee_2_2, if_pos h9]
    rw [r1, r2, hfl]
    refine ⟨rfl, rfl, fun q => ?_⟩
    have hf := (kf_0 q).1
    have e3 := r3 (r1.trans hf)
    exact ⟨a0, a1, a2, a3, ⟨⟨i0, j0, (un9 (show 7 ≠ 13 by decide)).trans m0⟩, ⟨i1, j1, (un9 (show 8 ≠ 13 by decide)).trans m1⟩, ⟨i2, j2, (un9 (show 9 ≠ 13 by decide)).trans m2⟩, ⟨i3, j3, (un9 (show 10 ≠ 13 by decide)).trans m3⟩⟩, ⟨(un9 (show 11 ≠ 13 by decide)).trans n11, (un9 (show 12 ≠ 13 by decide)).trans n12, (upd_at9 _ _ _).trans (by rw [e3]), by rw [nd, lk_s2], Nat.le_trans (by omega) (kx_ge b2 he)⟩, ⟨hP, ⟨hC, hB⟩, hT, hQ⟩⟩
  · have cd : ¬ 2 &&& dn = 0 := by rw [nd]; exact fun q => h9 (lk_2.mp q)
    simp only [s_X13_readLineR, s_X13_readLineR_0_mf, s_X13_readLineR_0_mx, s_X13_readLineR_1_f, s_X13_readLineR_2_f, s_X13_readLineR_3_f, s_X13_readLineR_4_f, s_X13_readLineR_5_f, s_X13_readLineR_6_f, s_X13_readLineR_7_f, s_X13_readLineR_8_f, s_X13_readLineR_9_f, s_X13_readLineR_10_f, s_X13_readLineR_11_f, s_X13_readLineR_12_f, s_X13_readLineR_13_f, s_X13_readLineR_14_f, s_X13_readLineR_15_f, s_X13_readLineR_16_f, s_X13_readLineR_17_f, s_X13_readLineR_18_f, s_X4_readLine_0_4, s_X4_readLine_1_2, s_X4_readLine_2_1, s_X4_readLine_7_2, s_X4_readLine_3_f, s_X4_readLine_4_f, s_X4_readLine_5_f, s_X4_readLine_6_f, lCs, if_pos c11, if_neg c12, if_pos ck, if_neg (show ¬ wX en tapeF x = 1 by rw [hw]; decide), if_neg (show ¬ wX en tapeF x = 2 by rw [hw]; decide), if_neg (show ¬ wX en tapeF x = 10 by rw [hw]; decide), if_neg (show ¬ wX en tapeF x = 11 by rw [hw]; decide), if_pos hw, if_neg cd, s_X4_readFee_1_2, s_X4_readFee_0_4, if_neg h9]
    exact ⟨trivial, trivial, fun q => absurd (kf_0 q).1 (by decide)⟩
theorem ln_no {en x a0 a1 a2 a3 : Nat} {tapeF hv pf cf tf qf toldF ownF pocketsF bearsF ownerF limitF holdsF costF boardF kindF heavyF unsureF wideF valueF hotF placeF postToF priceF : Nat → Int32} {td dn nu : Int32} {cs : List Int32} (hx : x ≤ en) (he : en ≤ 700) (h : cQ a0 a1 a2 a3 hv td cs x pf cf tf qf dn toldF ownF pocketsF bearsF ownerF limitF holdsF costF boardF kindF heavyF unsureF wideF valueF hotF placeF postToF priceF) (ck : wKd.getD (wX en tapeF x) 0 = -1) (v1 : ¬ wX en tapeF x = 1) (v2 : ¬ wX en tapeF x = 2) (v10 : ¬ wX en tapeF x = 10) (v11 : ¬ wX en tapeF x = 11) (v12 : ¬ wX en tapeF x = 12) : (s_X13_readLineR_0_mf en x toldF tapeF holdsF boardF wideF placeF postToF nu cs a0 a1 a2 a3 dn) = kF9 en tapeF (s_X4_readLine_1_2 en x 0 tapeF hv (hv 7).toNatClampNeg cf tf qf td cs) (s_X4_readLine_0_4 en x tapeF hv (hv 7).toNatClampNeg cf tf qf td cs) 59 ∧ (s_X13_readLineR_0_mx en x toldF tapeF holdsF boardF wideF placeF postToF nu cs a0 a1 a2 a3 dn) = (kX9 en tapeF (s_X4_readLine_1_2 en x 0 tapeF hv (hv 7).toNatClampNeg cf tf qf td cs) (s_X4_readLine_0_4 en x tapeF hv (hv 7).toNatClampNeg cf tf qf td cs) 59) ∧ (kF9 en tapeF (s_X4_readLine_1_2 en x 0 tapeF hv (hv 7).toNatClampNeg cf tf qf td cs) (s_X4_readLine_0_4 en x tapeF hv (hv 7).toNatClampNeg cf tf qf td cs) 59 = 0 → ∃ b0 b1 b2 b3 : Nat, cQ b0 b1 b2 b3 (s_X4_readLine_2_1 en x tapeF hv (hv 7).toNatClampNeg cf tf qf) (s_X4_readLine_7_2 en x tapeF td) (lCs en x tapeF td cs) (kX9 en tapeF (s_X4_readLine_1_2 en x 0 tapeF hv (hv 7).toNatClampNeg cf tf qf td cs) (s_X4_readLine_0_4 en x tapeF hv (hv 7).toNatClampNeg cf tf qf td cs) 59) (s_X4_readLine_3_f en x tapeF hv pf) (s_X4_readLine_4_f en x tapeF hv cf) (s_X4_readLine_5_f en x tapeF hv (hv 7).toNatClampNeg cf tf) (s_X4_readLine_6_f en x tapeF hv qf) (s_X13_readLineR en x tapeF a0 a1 a2 a3 dn) (s_X13_readLineR_1_f en x toldF tapeF cs a0 a1 a2 a3 dn) (s_X13_readLineR_2_f en x tapeF ownF a0 a1 a2 a3 dn) (s_X13_readLineR_3_f en x tapeF pocketsF a0 a1 a2 a3 dn) (s_X13_readLineR_4_f en x tapeF bearsF a0 a1 a2 a3 dn) (s_X13_readLineR_5_f en x toldF tapeF ownerF a0 a1 a2 a3 dn) (s_X13_readLineR_6_f en x toldF tapeF limitF a0 a1 a2 a3 dn) (s_X13_readLineR_7_f en x toldF tapeF holdsF a0 a1 a2 a3 dn) (s_X13_readLineR_8_f en x toldF tapeF costF a0 a1 a2 a3 dn) (s_X13_readLineR_9_f en x toldF tapeF boardF a0 a1 a2 a3 dn) (s_X13_readLineR_10_f en x tapeF kindF a0 a1 a2 a3 dn) (s_X13_readLineR_11_f en x tapeF heavyF nu a0 a1 a2 a3 dn) (s_X13_readLineR_12_f en x tapeF unsureF nu a0 a1 a2 a3 dn) (s_X13_readLineR_13_f en x tapeF wideF nu a0 a1 a2 a3 dn) (s_X13_readLineR_14_f en x tapeF valueF nu a0 a1 a2 a3 dn) (s_X13_readLineR_15_f en x toldF tapeF holdsF boardF wideF hotF placeF nu a0 a1 a2 a3 dn) (s_X13_readLineR_16_f en x toldF tapeF placeF nu a0 a1 a2 a3 dn) (s_X13_readLineR_17_f en x tapeF postToF a0 a1 a2 a3 dn) (s_X13_readLineR_18_f en x tapeF postToF priceF a0 a1 a2 a3 dn)) := by
  obtain ⟨⟨⟨i0, j0, m0⟩, ⟨i1, j1, m1⟩, ⟨i2, j2, m2⟩, ⟨i3, j3, m3⟩⟩, ⟨n11, n12, n13, nd, nl⟩, ⟨hP, ⟨hC, hB⟩, hT, hQ⟩⟩ := h
  have w0 := wd_0 en tapeF x
  have hwk := wh_K en tapeF x
  have c11 : wdR en tapeF 0 x 11 = 0 := (w0 11).mpr v11
  have c12 : wdR en tapeF 0 x 12 = 0 := (w0 12).mpr v12
  have c1 : wdR en tapeF 0 x 1 = 0 := (w0 1).mpr v1
  have c2 : wdR en tapeF 0 x 2 = 0 := (w0 2).mpr v2
  have c10 : wdR en tapeF 0 x 10 = 0 := (w0 10).mpr v10
  have cs9 : s_X13_which en x tapeF 0 6 kdI = -1 := hwk.trans ck
  simp only [s_X13_readLineR, s_X13_readLineR_0_mf, s_X13_readLineR_0_mx, s_X13_readLineR_1_f, s_X13_readLineR_2_f, s_X13_readLineR_3_f, s_X13_readLineR_4_f, s_X13_readLineR_5_f, s_X13_readLineR_6_f, s_X13_readLineR_7_f, s_X13_readLineR_8_f, s_X13_readLineR_9_f, s_X13_readLineR_10_f, s_X13_readLineR_11_f, s_X13_readLineR_12_f, s_X13_readLineR_13_f, s_X13_readLineR_14_f, s_X13_readLineR_15_f, s_X13_readLineR_16_f, s_X13_readLineR_17_f, s_X13_readLineR_18_f, s_X4_readLine_0_4, s_X4_readLine_1_2, s_X4_readLine_2_1, s_X4_readLine_7_2, s_X4_readLine_3_f, s_X4_readLine_4_f, s_X4_readLine_5_f, s_X4_readLine_6_f, lCs, if_pos c11, if_pos c12, if_pos cs9, if_pos c1, if_pos c2, if_pos c10, if_pos ck, if_neg v1, if_neg v2, if_neg v10, if_neg v11, if_neg v12]
  exact ⟨trivial, trivial, fun q => absurd (kf_0 q).1 (by decide)⟩
theorem ln_th {en x a0 a1 a2 a3 : Nat} {tapeF hv pf cf tf qf toldF ownF pocketsF bearsF ownerF limitF holdsF costF boardF kindF heavyF unsureF wideF valueF hotF placeF postToF priceF : Nat → Int32} {td dn nu : Int32} {cs : List Int32} (hx : x ≤ en) (he : en ≤ 700) (h : cQ a0 a1 a2 a3 hv td cs x pf cf tf qf dn toldF ownF pocketsF bearsF ownerF limitF holdsF costF boardF kindF heavyF unsureF wideF valueF hotF placeF postToF priceF) (ck : ¬ wKd.getD (wX en tapeF x) 0 = -1) : (s_X13_readLineR_0_mf en x toldF tapeF holdsF boardF wideF placeF postToF nu cs a0 a1 a2 a3 dn) = kF9 en tapeF (s_X4_readLine_1_2 en x 0 tapeF hv (hv 7).toNatClampNeg cf tf qf td cs) (s_X4_readLine_0_4 en x tapeF hv (hv 7).toNatClampNeg cf tf qf td cs) 59 ∧ (s_X13_readLineR_0_mx en x toldF tapeF holdsF boardF wideF placeF postToF nu cs a0 a1 a2 a3 dn) = (kX9 en tapeF (s_X4_readLine_1_2 en x 0 tapeF hv (hv 7).toNatClampNeg cf tf qf td cs) (s_X4_readLine_0_4 en x tapeF hv (hv 7).toNatClampNeg cf tf qf td cs) 59) ∧ (kF9 en tapeF (s_X4_readLine_1_2 en x 0 tapeF hv (hv 7).toNatClampNeg cf tf qf td cs) (s_X4_readLine_0_4 en x tapeF hv (hv 7).toNatClampNeg cf tf qf td cs) 59 = 0 → ∃ b0 b1 b2 b3 : Nat, cQ b0 b1 b2 b3 (s_X4_readLine_2_1 en x tapeF hv (hv 7).toNatClampNeg cf tf qf) (s_X4_readLine_7_2 en x tapeF td) (lCs en x tapeF td cs) (kX9 en tapeF (s_X4_readLine_1_2 en x 0 tapeF hv (hv 7).toNatClampNeg cf tf qf td cs) (s_X4_readLine_0_4 en x tapeF hv (hv 7).toNatClampNeg cf tf qf td cs) 59) (s_X4_readLine_3_f en x tapeF hv pf) (s_X4_readLine_4_f en x tapeF hv cf) (s_X4_readLine_5_f en x tapeF hv (hv 7).toNatClampNeg cf tf) (s_X4_readLine_6_f en x tapeF hv qf) (s_X13_readLineR en x tapeF a0 a1 a2 a3 dn) (s_X13_readLineR_1_f en x toldF tapeF cs a0 a1 a2 a3 dn) (s_X13_readLineR_2_f en x tapeF ownF a0 a1 a2 a3 dn) (s_X13_readLineR_3_f en x tapeF pocketsF a0 a1 a2 a3 dn) (s_X13_readLineR_4_f en x tapeF bearsF a0 a1 a2 a3 dn) (s_X13_readLineR_5_f en x toldF tapeF ownerF a0 a1 a2 a3 dn) (s_X13_readLineR_6_f en x toldF tapeF limitF a0 a1 a2 a3 dn) (s_X13_readLineR_7_f en x toldF tapeF holdsF a0 a1 a2 a3 dn) (s_X13_readLineR_8_f en x toldF tapeF costF a0 a1 a2 a3 dn) (s_X13_readLineR_9_f en x toldF tapeF boardF a0 a1 a2 a3 dn) (s_X13_readLineR_10_f en x tapeF kindF a0 a1 a2 a3 dn) (s_X13_readLineR_11_f en x tapeF heavyF nu a0 a1 a2 a3 dn) (s_X13_readLineR_12_f en x tapeF unsureF nu a0 a1 a2 a3 dn) (s_X13_readLineR_13_f en x tapeF wideF nu a0 a1 a2 a3 dn) (s_X13_readLineR_14_f en x tapeF valueF nu a0 a1 a2 a3 dn) (s_X13_readLineR_15_f en x toldF tapeF holdsF boardF wideF hotF placeF nu a0 a1 a2 a3 dn) (s_X13_readLineR_16_f en x toldF tapeF placeF nu a0 a1 a2 a3 dn) (s_X13_readLineR_17_f en x tapeF postToF a0 a1 a2 a3 dn) (s_X13_readLineR_18_f en x tapeF postToF priceF a0 a1 a2 a3 dn)) := by
  obtain ⟨⟨⟨i0, j0, m0⟩, ⟨i1, j1, m1⟩, ⟨i2, j2, m2⟩, ⟨i3, j3, m3⟩⟩, ⟨n11, n12, n13, nd, nl⟩, ⟨hP, ⟨hC, hB⟩, hT, hQ⟩⟩ := h
  have w0 := wd_0 en tapeF x
  have hwk := wh_K en tapeF x
  have v11 : ¬ wX en tapeF x = 11 := fun q => ck (by rw [q]; decide)
  have v12 : ¬ wX en tapeF x = 12 := fun q => ck (by rw [q]; decide)
  have c11 : wdR en tapeF 0 x 11 = 0 := (w0 11).mpr v11
  have c12 : wdR en tapeF 0 x 12 = 0 := (w0 12).mpr v12
  have cs9 : ¬ s_X13_which en x tapeF 0 6 kdI = -1 := fun q => ck (hwk.symm.trans q)
  have e7 : (hv 7).toNatClampNeg = a2 := by rw [j2, nI_clamp (by omega)]
  by_cases ha : a2 < 12
  · obtain ⟨r1, r2, r3, r4⟩ := ln_thing (x := x) (bf := tapeF) (en := en) (nu := nu) (z := wKd.getD (wX en tapeF x) 0) j2 ha j1 i1 (m1.trans j1.symm) hC hB hT
    have hge := (lx_t (bf := tapeF) hv a2 cf tf (wKd.getD (wX en tapeF x) 0) hx he).1
    have hle := (lx_t (bf := tapeF) hv a2 cf tf (wKd.getD (wX en tapeF x) 0) hx he).2
    simp only [s_X13_readLineR, s_X13_readLineR_0_mf, s_X13_readLineR_0_mx, s_X13_readLineR_1_f, s_X13_readLineR_2_f, s_X13_readLineR_3_f, s_X13_readLineR_4_f, s_X13_readLineR_5_f, s_X13_readLineR_6_f, s_X13_readLineR_7_f, s_X13_readLineR_8_f, s_X13_readLineR_9_f, s_X13_readLineR_10_f, s_X13_readLineR_11_f, s_X13_readLineR_12_f, s_X13_readLineR_13_f, s_X13_readLineR_14_f, s_X13_readLineR_15_f, s_X13_readLineR_16_f, s_X13_readLineR_17_f, s_X13_readLineR_18_f, s_X4_readLine_0_4, s_X4_readLine_1_2, s_X4_readLine_2_1, s_X4_readLine_7_2, s_X4_readLine_3_f, s_X4_readLine_4_f, s_X4_readLine_5_f, s_X4_readLine_6_f, lCs, if_pos c11, if_pos c12, if_neg cs9, if_neg ck, if_neg v12, if_pos ha, e7, hwk]
    rw [r1, r2]
    refine ⟨rfl, rfl, fun q => ?_⟩
    have hf := (kf_0 q).1
    rw [r3]
    exact ⟨a0, a1, a2 + 1, a3, ⟨⟨i0, by rw [un9 (show 5 ≠ 7 by decide)]; exact j0, by rw [un9 (show 7 ≠ 9 by decide)]; exact m0⟩, ⟨i1, by rw [un9 (show 6 ≠ 7 by decide)]; exact j1, by rw [un9 (show 8 ≠ 9 by decide)]; exact m1⟩, ⟨by omega, by rw [upd_at9, j2]; exact nI_1 _, by rw [upd_at9, m2]; exact nI_1 _⟩, ⟨i3, by rw [un9 (show 8 ≠ 7 by decide)]; exact j3, by rw [un9 (show 10 ≠ 9 by decide)]; exact m3⟩⟩, ⟨by rw [un9 (show 11 ≠ 9 by decide), un9 (show 10 ≠ 7 by decide)]; exact n11, by rw [un9 (show 12 ≠ 9 by decide), un9 (show 11 ≠ 7 by decide)]; exact n12, by rw [un9 (show 13 ≠ 9 by decide)]; exact n13, by rw [un9 (show 9 ≠ 7 by decide), or_z]; exact nd, Nat.le_trans nl (Nat.le_trans hge (kx_ge hle he))⟩, ⟨hP, ⟨hC, hB⟩, r4 hf, hQ⟩⟩
  · have ea : a2 = 12 := by omega
    have hn : ¬ hv 7 < 12 := by rw [j2, ea]; decide
    simp only [s_X13_readLineR, s_X13_readLineR_0_mf, s_X13_readLineR_0_mx, s_X13_readLineR_1_f, s_X13_readLineR_2_f, s_X13_readLineR_3_f, s_X13_readLineR_4_f, s_X13_readLineR_5_f, s_X13_readLineR_6_f, s_X13_readLineR_7_f, s_X13_readLineR_8_f, s_X13_readLineR_9_f, s_X13_readLineR_10_f, s_X13_readLineR_11_f, s_X13_readLineR_12_f, s_X13_readLineR_13_f, s_X13_readLineR_14_f, s_X13_readLineR_15_f, s_X13_readLineR_16_f, s_X13_readLineR_17_f, s_X13_readLineR_18_f, s_X4_readLine_0_4, s_X4_readLine_1_2, s_X4_readLine_2_1, s_X4_readLine_7_2, s_X4_readLine_3_f, s_X4_readLine_4_f, s_X4_readLine_5_f, s_X4_readLine_6_f, lCs, if_pos c11, if_pos c12, if_neg cs9, if_neg ck, if_neg v12, if_neg ha, s_X4_readThing_1_2, s_X4_readThing_0_4, if_neg hn]
    exact ⟨trivial, trivial, fun q => absurd (kf_0 q).1 (by decide)⟩
/-- every line -/
theorem ln_all {en x a0 a1 a2 a3 : Nat} {tapeF hv pf cf tf qf toldF ownF pocketsF bearsF ownerF limitF holdsF costF boardF kindF heavyF unsureF wideF valueF hotF placeF postToF priceF : Nat → Int32} {td dn nu : Int32} {cs : List Int32} (hx : x ≤ en) (he : en ≤ 700) (h : cQ a0 a1 a2 a3 hv td cs x pf cf tf qf dn toldF ownF pocketsF bearsF ownerF limitF holdsF costF boardF kindF heavyF unsureF wideF valueF hotF placeF postToF priceF) : (s_X13_readLineR_0_mf en x toldF tapeF holdsF boardF wideF placeF postToF nu cs a0 a1 a2 a3 dn) = kF9 en tapeF (s_X4_readLine_1_2 en x 0 tapeF hv (hv 7).toNatClampNeg cf tf qf td cs) (s_X4_readLine_0_4 en x tapeF hv (hv 7).toNatClampNeg cf tf qf td cs) 59 ∧ (s_X13_readLineR_0_mx en x toldF tapeF holdsF boardF wideF placeF postToF nu cs a0 a1 a2 a3 dn) = (kX9 en tapeF (s_X4_readLine_1_2 en x 0 tapeF hv (hv 7).toNatClampNeg cf tf qf td cs) (s_X4_readLine_0_4 en x tapeF hv (hv 7).toNatClampNeg cf tf qf td cs) 59) ∧ (kF9 en tapeF (s_X4_readLine_1_2 en x 0 tapeF hv (hv 7).toNatClampNeg cf tf qf td cs) (s_X4_readLine_0_4 en x tapeF hv (hv 7).toNatClampNeg cf tf qf td cs) 59 = 0 → ∃ b0 b1 b2 b3 : Nat, cQ b0 b1 b2 b3 (s_X4_readLine_2_1 en x tapeF hv (hv 7).toNatClampNeg cf tf qf) (s_X4_readLine_7_2 en x tapeF td) (lCs en x tapeF td cs) (kX9 en tapeF (s_X4_readLine_1_2 en x 0 tapeF hv (hv 7).toNatClampNeg cf tf qf td cs) (s_X4_readLine_0_4 en x tapeF hv (hv 7).toNatClampNeg cf tf qf td cs) 59) (s_X4_readLine_3_f en x tapeF hv pf) (s_X4_readLine_4_f en x tapeF hv cf) (s_X4_readLine_5_f en x tapeF hv (hv 7).toNatClampNeg cf tf) (s_X4_readLine_6_f en x tapeF hv qf) (s_X13_readLineR en x tapeF a0 a1 a2 a3 dn) (s_X13_readLineR_1_f en x toldF tapeF cs a0 a1 a2 a3 dn) (s_X13_readLineR_2_f en x tapeF ownF a0 a1 a2 a3 dn) (s_X13_readLineR_3_f en x tapeF pocketsF a0 a1 a2 a3 dn) (s_X13_readLineR_4_f en x tapeF bearsF a0 a1 a2 a3 dn) (s_X13_readLineR_5_f en x toldF tapeF ownerF a0 a1 a2 a3 dn) (s_X13_readLineR_6_f en x toldF tapeF limitF a0 a1 a2 a3 dn) (s_X13_readLineR_7_f en x toldF tapeF holdsF a0 a1 a2 a3 dn) (s_X13_readLineR_8_f en x toldF tapeF costF a0 a1 a2 a3 dn) (s_X13_readLineR_9_f en x toldF tapeF boardF a0 a1 a2 a3 dn) (s_X13_readLineR_10_f en x tapeF kindF a0 a1 a2 a3 dn) (s_X13_readLineR_11_f en x tapeF heavyF nu a0 a1 a2 a3 dn) (s_X13_readLineR_12_f en x tapeF unsureF nu a0 a1 a2 a3 dn) (s_X13_readLineR_13_f en x tapeF wideF nu a0 a1 a2 a3 dn) (s_X13_readLineR_14_f en x tapeF valueF nu a0 a1 a2 a3 dn) (s_X13_readLineR_15_f en x toldF tapeF holdsF boardF wideF hotF placeF nu a0 a1 a2 a3 dn) (s_X13_readLineR_16_f en x toldF tapeF placeF nu a0 a1 a2 a3 dn) (s_X13_readLineR_17_f en x tapeF postToF a0 a1 a2 a3 dn) (s_X13_readLineR_18_f en x tapeF postToF priceF a0 a1 a2 a3 dn)) := by
  by_cases ck : wKd.getD (wX en tapeF x) 0 = -1
  · by_cases v1 : wX en tapeF x = 1
    · exact ln_1 hx he h v1
    by_cases v2 : wX en tapeF x = 2
    · exact ln_2 hx he h v2
    by_cases v10 : wX en tapeF x = 10
    · exact ln_10 hx he h v10
    by_cases v11 : wX en tapeF x = 11
    · exact ln_11 hx he h v11
    by_cases v12 : wX en tapeF x = 12
    · exact ln_12 hx he h v12
    exact ln_no hx he h ck v1 v2 v10 v11 v12
  · exact ln_th hx he h ck
end
