/-! between two cases, what to wear: one in both -/
noncomputable section
theorem bt_nI {t i : Nat} (ht : t < 2 ^ 32) (hi : i < 32) : bt (nI t) i = t.testBit i := by
  unfold bt
  show (BitVec.ofNat 32 t).getLsbD i = _
  rw [BitVec.getLsbD_ofNat, decide_eq_true hi, Bool.true_and]
theorem sub_bt {s u : Int32} (h : s &&& (u ^^^ (-1)) = 0) {i : Nat} (hi : i < 32) (hs : bt s i = true) : bt u i = true := by
  have h1 : bt (s &&& (u ^^^ (-1))) i = false := by rw [h]; exact b_0 i
  rw [b_and, b_xor, b_m1 i hi, hs] at h1
  cases hu : bt u i with
  | true => rfl
  | false => rw [hu] at h1; exact absurd h1 (by decide)
theorem bt_sub {s u : Int32} (h : ∀ i : Nat, i < 32 → bt s i = true → bt u i = true) : s &&& (u ^^^ (-1)) = 0 := by
  refine b_ext (fun i hi => ?_)
  rw [b_0, b_and, b_xor, b_m1 i hi]
  cases hs : bt s i with
  | false => rfl
  | true => rw [h i hi hs]; rfl
theorem big_sub {t nt : Nat} {u : Int32} (ht : t < 4096) (h1 : 2 ^ nt ≤ t) (hu : ∀ i : Nat, nt ≤ i → i < 32 → bt u i = false) : ¬ (nI t) &&& (u ^^^ (-1)) = 0 := by
  intro h
  have : t < 2 ^ nt := Nat.lt_pow_two_of_testBit t (fun i hi => by
    by_cases h32 : i < 32
    · cases hb : t.testBit i with
      | false => rfl
      | true =>
        rw [← bt_nI (by omega) h32] at hb
        have := sub_bt h h32 hb
        rw [hu i hi h32] at this
        exact absurd this (by decide)
    · exact Nat.testBit_lt_two_pow (Nat.lt_of_lt_of_le (show t < 2 ^ 32 by omega) (Nat.pow_le_pow_right (by decide) (by omega))))
  exact absurd this (Nat.not_lt.mpr h1)
theorem swp {A B s : Int32} (hd : ∀ i : Nat, i < 32 → ¬ (bt A i = true ∧ bt B i = true)) (h : ∀ i : Nat, i < 32 → bt s i = true → bt A i = true ∨ bt B i = true) : (A &&& (s ^^^ (-1))) ||| (B &&& s) = A ^^^ s := by
  refine b_ext (fun i hi => ?_)
  have h1 := h i hi
  have h2 := hd i hi
  rw [b_or, b_and, b_and, b_xor, b_xor, b_m1 i hi]
  cases ha : bt A i <;> cases hb : bt B i <;> cases hs : bt s i <;> simp [ha, hb, hs] at h1 h2 ⊢
theorem bo_bc : ∀ a : Nat, a < 64 → ∀ b : Nat, b < 64 → boS (a * 64 + b) (nI (a * 64 + b)) = bcI (nI (a * 64 + b)) := by decide +kernel
theorem bo_eq {k : Nat} (h : k < 4096) : boS (nI k).toBitVec.toNat (nI k) = bcI (nI k) := by
  rw [pk_tn (by omega)]
  have := bo_bc (k / 64) (by omega) (k % 64) (by omega)
  rw [show k / 64 * 64 + k % 64 = k by omega] at this
  exact this
theorem ir_eq {nt nc c : Nat} (hnt : nt ≤ 12) (hnc : nc ≤ 5) {tf cf ki he un wi va ht ow li ho co bo : Nat → Int32} {B : Int32} (hT : rlT nt tf ki he un wi va ht) (hC : rlC nc cf ow li ho co bo) (hc : c < nc) (hb : bo c = 0 ∨ bo c = 1) (hB : ∀ i : Nat, nt ≤ i → i < 32 → bt B i = false) : s_X13_isRight nt li ho bo ki he wi (nI c) B = gwS nt cf tf (nI c) B := by
  have cl : (nI c).toNatClampNeg = c := nI_clamp (by omega)
  obtain ⟨-, c1, c2, -, c4⟩ := hC c hc
  have key : ∀ r t : Nat, t + r = nt → ((bo c = 1 ∧ ∃ u : Nat, t ≤ u ∧ u < nt ∧ bt B u = true ∧ ki u = 2) → s_X13_isRight_8 li ho bo ki he wi (nI c) B r t (smS tf B 3 t) (smS tf B 1 t) = 0) ∧ (¬ (bo c = 1 ∧ ∃ u : Nat, t ≤ u ∧ u < nt ∧ bt B u = true ∧ ki u = 2) → s_X13_isRight_8 li ho bo ki he wi (nI c) B r t (smS tf B 3 t) (smS tf B 1 t) = if li c < smS tf B 1 nt then 0 else if ho c < smS tf B 3 nt then 0 else 1) := by
    intro r
    induction r with
    | zero =>
      intro t ht9
      have e : t = nt := by omega
      subst e
      refine ⟨fun ⟨_, u, h1, h2, _⟩ => absurd h1 (by omega), fun _ => ?_⟩
      rw [s_X13_isRight_8, cl]
    | succ r ih =>
      intro t ht9
      obtain ⟨i1, i2⟩ := ih (t + 1) (by omega)
      obtain ⟨t0, t1, -, t3, -, -⟩ := hT t (by omega)
      have a3 : tat 84 tf (nI t * 7 + 3) = wi t := by rw [ta3 7 3 rfl 7 3 rfl rfl (by omega) (by decide), t3]
      have a1 : tat 84 tf (nI t * 7 + 1) = he t := by rw [ta3 7 1 rfl 7 1 rfl rfl (by omega) (by decide), t1]
      have s3 : smS tf B 3 (t + 1) = if (B >>> (nI t &&& 31)) &&& 1 = 0 then smS tf B 3 t else smS tf B 3 t + wi t := by rw [smS, a3]
      have s1 : smS tf B 1 (t + 1) = if (B >>> (nI t &&& 31)) &&& 1 = 0 then smS tf B 1 t else smS tf B 1 t + he t := by rw [smS, a1]
      have nx : ¬ (bt B t = true ∧ ki t = 2) → ((bo c = 1 ∧ ∃ u : Nat, t ≤ u ∧ u < nt ∧ bt B u = true ∧ ki u = 2) ↔ (bo c = 1 ∧ ∃ u : Nat, t + 1 ≤ u ∧ u < nt ∧ bt B u = true ∧ ki u = 2)) := by
        intro hno
        constructor
        · rintro ⟨h1, u, h2, h3, h4⟩
          by_cases e : u = t
          · subst e; exact absurd h4 hno
          · exact ⟨h1, u, by omega, h3, h4⟩
        · rintro ⟨h1, u, h2, h3⟩
          exact ⟨h1, u, by omega, h3⟩
      rw [s_X13_isRight_8]
      by_cases hbit : (B >>> (nI t &&& 31)) &&& 1 = 0
      · have hf := (bt_tst (x := B) (t := t) (by omega)).mp hbit
        rw [if_pos hbit] at s3 s1 ⊢
        rw [s3, s1] at i1 i2
        have q := nx (fun h => by rw [hf] at h; exact absurd h.1 (by decide))
        exact ⟨fun h => i1 (q.mp h), fun h => i2 (fun z => h (q.mpr z))⟩
      · have hf : bt B t = true := by
          cases hb2 : bt B t with
          | true => rfl
          | false => exact absurd ((bt_tst (by omega)).mpr hb2) hbit
        rw [if_neg hbit] at s3 s1 ⊢
        rw [s3, s1] at i1 i2
        by_cases k2 : ki t = 2
        · rw [if_pos k2, cl]
          by_cases b1 : bo c = 1
          · rw [if_pos b1]
            exact ⟨fun _ => rfl, fun h => absurd ⟨b1, t, Nat.le_refl _, by omega, hf, k2⟩ h⟩
          · rw [if_neg b1]
            exact ⟨fun h => absurd h.1 b1, fun _ => i2 (fun z => b1 z.1)⟩
        · rw [if_neg k2]
          have q := nx (fun h => k2 h.2)
          exact ⟨fun h => i1 (q.mp h), fun h => i2 (fun z => h (q.mpr z))⟩
  have k : ((bo c = 1 ∧ ∃ u : Nat, 0 ≤ u ∧ u < nt ∧ bt B u = true ∧ ki u = 2) → s_X13_isRight nt li ho bo ki he wi (nI c) B = 0) ∧ (¬ (bo c = 1 ∧ ∃ u : Nat, 0 ≤ u ∧ u < nt ∧ bt B u = true ∧ ki u = 2) → s_X13_isRight nt li ho bo ki he wi (nI c) B = if li c < smS tf B 1 nt then 0 else if ho c < smS tf B 3 nt then 0 else 1) := key nt 0 (Nat.zero_add _)
  have hz : B &&& okS tf 2 nt = 0 ↔ ¬ ∃ t : Nat, t < nt ∧ bt B t = true ∧ tf (7 * t + 0) = 2 := by
    rw [← hk_iff (tf := tf) (k := 2) hnt hB]
    unfold hkS
    by_cases q : B &&& okS tf 2 nt = 0
    · rw [if_pos q]; exact ⟨fun _ => rfl, fun _ => q⟩
    · rw [if_neg q]; exact ⟨fun h => absurd h q, fun h => absurd h (by decide)⟩
  unfold gwS
  rw [ta3 5 1 rfl 5 1 rfl rfl (by omega) (by decide), ta3 5 2 rfl 5 2 rfl rfl (by omega) (by decide), ta3 5 4 rfl 5 4 rfl rfl (by omega) (by decide), ← c1, ← c2, ← c4]
  by_cases P : bo c = 1 ∧ ∃ u : Nat, 0 ≤ u ∧ u < nt ∧ bt B u = true ∧ ki u = 2
  · rw [k.1 P]
    have b0 : ¬ bo c = 0 := by rw [P.1]; decide
    have hn : ¬ B &&& okS tf 2 nt = 0 := by
      obtain ⟨-, u, -, h1, h2, h3⟩ := P
      exact fun q => (hz.mp q) ⟨u, h1, h2, by rw [← (hT u h1).1]; exact h3⟩
    rw [if_neg b0, if_neg hn]
    simp only [ite_self]
  · rw [k.2 P]
    have e1 : (if bo c = 0 then (1 : Int32) else if B &&& okS tf 2 nt = 0 then 1 else 0) = 1 := by
      rcases hb with h | h
      · rw [if_pos h]
      · rw [if_neg (by rw [h]; decide), if_pos (hz.mpr (fun ⟨u, h1, h2, h3⟩ => P ⟨h, u, Nat.zero_le _, h1, h2, by rw [(hT u h1).1]; exact h3⟩))]
    rw [e1]
theorem eq_two {nt nc nz a b : Nat} (hnt : nt ≤ 12) (hnc : nc ≤ 5) {tf cf plf ki he un wi va ht pl ow li ho co bo : Nat → Int32} (hT : rlT nt tf ki he un wi va ht) (hC : rlC nc cf ow li ho co bo) (hL : rlL nt plf pl) (hbo : ∀ c : Nat, c < nc → bo c = 0 ∨ bo c = 1) (ha : a < nc) (hb : b < nc) (hab : a ≠ b) (hz : nz = 2 ^ nt) :
    s_X13_two_59 nt li ho bo ki he wi ht pl (nI a) (nI b) (-1) nz = s_X12_two nt cf tf plf (nI a) (nI b) := by
  have A5 : s_X13_sumAt nt ki he wi ht pl (nI a) 5 = taS plf (nI a) nt := (eq_bits hnt hL nt (Nat.le_refl _)).1
  have B5 : s_X13_sumAt nt ki he wi ht pl (nI b) 5 = taS plf (nI b) nt := (eq_bits hnt hL nt (Nat.le_refl _)).1
  have oA : ∀ i : Nat, nt ≤ i → i < 32 → bt (taS plf (nI a) nt) i = false := ta_out hnt
  have oB : ∀ i : Nat, nt ≤ i → i < 32 → bt (taS plf (nI b) nt) i = false := ta_out hnt
  have dis : ∀ i : Nat, i < 32 → ¬ (bt (taS plf (nI a) nt) i = true ∧ bt (taS plf (nI b) nt) i = true) := by
    rintro i hi ⟨h1, h2⟩
    rw [ta_bt hi nt hnt] at h1 h2
    exact hab ((nI_eq (by omega) (by omega)).mp ((of_decide_eq_true h1).2.symm.trans (of_decide_eq_true h2).2))
  have hnz : nz ≤ 4096 := by rw [hz]; exact Nat.pow_le_pow_right (by decide) hnt
  unfold s_X12_two s_X2_fewestBetween
  generalize hA : taS plf (nI a) nt = A at A5 oA dis
  generalize hB : taS plf (nI b) nt = B at B5 oB dis
  have st : ∀ (t : Nat) (x : Int32), t < 4096 → (x = -1 ∨ ∃ j : Nat, j < 4096 ∧ x = nI j) → s_X13_two_59s nt li ho bo ki he wi ht pl (nI a) (nI b) t x = s_X2_fewestBetween_20s nt cf tf plf (nI a) (nI b) t x := by
    intro t x ht9 hx
    unfold s_X13_two_59s s_X2_fewestBetween_20s
    rw [A5, B5, hA, hB]
    by_cases hs : (nI t) &&& ((A ||| B) ^^^ (-1)) = 0
    · have hs2 : ∀ i : Nat, i < 32 → bt (nI t) i = true → bt A i = true ∨ bt B i = true := fun i hi q => by
        have := sub_bt hs hi q
        rw [b_or] at this
        exact (Bool.or_eq_true _ _).mp this
      have e1 := swp dis hs2
      have e2 := swp (fun i hi q => dis i hi q.symm) (fun i hi q => (hs2 i hi q).symm)
      have ot : ∀ i : Nat, nt ≤ i → i < 32 → bt (nI t) i = false := fun i h1 h2 => by
        cases q : bt (nI t) i with
        | false => rfl
        | true => rcases hs2 i h2 q with z | z
                  · rw [oA i h1 h2] at z; exact absurd z (by decide)
                  · rw [oB i h1 h2] at z; exact absurd z (by decide)
      have g1 := ir_eq (B := A ^^^ nI t) hnt hnc hT hC ha (hbo a ha) (fun i h1 h2 => by rw [b_xor, oA i h1 h2, ot i h1 h2]; rfl)
      have g2 := ir_eq (B := B ^^^ nI t) hnt hnc hT hC hb (hbo b hb) (fun i h1 h2 => by rw [b_xor, oB i h1 h2, ot i h1 h2]; rfl)
      rw [if_pos hs, if_pos hs, e1, e2, g1, g2]
      rcases hx with rfl | ⟨j, hj, rfl⟩
      · rw [if_pos rfl, if_pos rfl]
      · have n1 : ¬ nI j = -1 := nI_n1 (by omega)
        rw [if_neg n1, if_neg n1, bo_eq ht9, bo_eq hj]
        by_cases q : bcI (nI j) ≤ bcI (nI t)
        · rw [if_pos q, if_neg (Int32.not_lt.mpr q)]
        · rw [if_neg q, if_pos (Int32.not_le.mp q)]
    · rw [if_neg hs, if_neg hs]
      simp only [ite_self]
  have bet : ∀ (t : Nat) (x : Int32), t < 4096 → (x = -1 ∨ ∃ j : Nat, j < 4096 ∧ x = nI j) → (s_X2_fewestBetween_20s nt cf tf plf (nI a) (nI b) t x = -1 ∨ ∃ j : Nat, j < 4096 ∧ s_X2_fewestBetween_20s nt cf tf plf (nI a) (nI b) t x = nI j) := by
    intro t x ht9 hx
    unfold s_X2_fewestBetween_20s
    (repeat' split) <;> first | exact hx | exact Or.inr ⟨t, ht9, rfl⟩
  have up : ∀ n : Nat, n ≤ 4096 → (s_X2_fewestBetween_20 nt cf tf plf (nI a) (nI b) (-1) n = -1 ∨ ∃ j : Nat, j < 4096 ∧ s_X2_fewestBetween_20 nt cf tf plf (nI a) (nI b) (-1) n = nI j) := by
    intro n
    induction n with
    | zero => intro _; exact Or.inl rfl
    | succ n ih => intro hn; rw [s_X2_fewestBetween_20]; exact bet n _ (by omega) (ih (by omega))
  have lo : ∀ n : Nat, n ≤ 4096 → s_X13_two_59 nt li ho bo ki he wi ht pl (nI a) (nI b) (-1) n = s_X2_fewestBetween_20 nt cf tf plf (nI a) (nI b) (-1) n := by
    intro n
    induction n with
    | zero => intro _; rfl
    | succ n ih =>
      intro hn
      rw [s_X13_two_59, s_X2_fewestBetween_20, ih (by omega)]
      exact st n _ (by omega) (up n (by omega))
  have hi : ∀ d : Nat, nz + d ≤ 4096 → s_X2_fewestBetween_20 nt cf tf plf (nI a) (nI b) (-1) (nz + d) = s_X2_fewestBetween_20 nt cf tf plf (nI a) (nI b) (-1) nz := by
    intro d
    induction d with
    | zero => intro _; rfl
    | succ d ih =>
      intro hd
      rw [← Nat.add_assoc, s_X2_fewestBetween_20, ih (by omega)]
      unfold s_X2_fewestBetween_20s
      rw [hA, hB]
      have ns : ¬ (nI (nz + d)) &&& ((A ||| B) ^^^ (-1)) = 0 := big_sub (nt := nt) (by omega) (by rw [← hz]; omega) (fun i h1 h2 => by rw [b_or, oA i h1 h2, oB i h1 h2]; rfl)
      rw [if_neg ns]
      simp only [ite_self]
  rw [lo nz hnz, ← hi (4096 - nz) (by omega), show nz + (4096 - nz) = 4096 by omega]
/-- what to wear -/
theorem sm_bd {nt b : Nat} {tf : Nat → Int32} {col : Int32} (h : ∀ t : Nat, t < nt → ∃ k : Nat, k ≤ b ∧ tat 84 tf (nI t * 7 + col) = nI k) (bits : Int32) : ∀ n : Nat, n ≤ nt → ∃ k : Nat, k ≤ b * n ∧ smS tf bits col n = nI k
  | 0, _ => ⟨0, by omega, rfl⟩
  | n + 1, hn => by
    obtain ⟨k, hk, e⟩ := sm_bd h bits n (by omega)
    have hm : b * (n + 1) = b * n + b := Nat.mul_succ b n
    rw [smS, e]
    by_cases c : (bits >>> (nI n &&& 31)) &&& 1 = 0
    · rw [if_pos c]; exact ⟨k, by omega, rfl⟩
    · rw [if_neg c]
      obtain ⟨u, hu, eu⟩ := h n (by omega)
      rw [eu, nI_add]
      exact ⟨_, by omega, rfl⟩
theorem lin_w {b w a : Nat} (hb : b < 2 ^ 20) (hw : w < 2 ^ 20) (ha : a < 2 ^ 20) : nI b - nI w + 1 ≤ nI a ↔ nI b < nI w + nI a := by
  have e : nI b - nI w + 1 = nI (b + 1) - nI w := by
    rw [← nI_1, Int32.sub_eq_add_neg, Int32.sub_eq_add_neg, Int32.add_assoc, Int32.add_assoc, Int32.add_comm (-nI w) 1]
  rw [e, nI_add, nI_ltI (by omega) (by omega), Int32.le_iff_toInt_le, pk_sub_toInt (by omega) (by omega), nI_toInt (by omega)]
  omega
theorem w43 {nt nc : Nat} (hnt : nt ≤ 12) (hnc : nc ≤ 5) {to ow ki pl : Nat → Int32} {x : Int32} (k1 : to 1 = nI nc) {i : Nat} (hi : i < 32) : ∀ n : Nat, n ≤ nt → (bt (s_X13_wear_43 to ow ki pl x 0 n) i = true ↔ i < n ∧ ki i = 1 ∧ ∃ c : Nat, c < nc ∧ pl i = nI c ∧ ow c = x)
  | 0, _ => by
    rw [s_X13_wear_43, b_0]
    exact ⟨fun h => absurd h (by decide), fun h => absurd h.1 (Nat.not_lt_zero _)⟩
  | n + 1, hn => by
    have ih := w43 hnt hnc (ow := ow) (ki := ki) (pl := pl) (x := x) k1 hi n (by omega)
    have no : ¬ (ki n = 1 ∧ ∃ c : Nat, c < nc ∧ pl n = nI c ∧ ow c = x) → (bt (s_X13_wear_43 to ow ki pl x 0 n) i = true ↔ i < n + 1 ∧ ki i = 1 ∧ ∃ c : Nat, c < nc ∧ pl i = nI c ∧ ow c = x) := by
      intro hno
      rw [ih]
      constructor
      · rintro ⟨h1, h2⟩; exact ⟨by omega, h2⟩
      · rintro ⟨h1, h2⟩
        by_cases e : i = n
        · subst e; exact absurd h2 hno
        · exact ⟨by omega, h2⟩
    rw [s_X13_wear_43]
    unfold s_X13_wear_43s
    by_cases c1 : ki n = 1
    · rw [if_pos c1]
      by_cases c2 : s_X13_isCase to (pl n) = 0
      · rw [if_pos c2, or_z]
        exact no (fun ⟨_, c, h1, h2, _⟩ => (in_iff k1 (by omega)).mp c2 ⟨c, h1, h2⟩)
      · rw [if_neg c2]
        obtain ⟨c, hc, e⟩ := Classical.not_not.mp (fun q => c2 ((in_iff k1 (by omega)).mpr q))
        rw [e, nI_clamp (by omega)]
        by_cases c3 : ow c = x
        · rw [if_pos c3, b_or, bt_one (by omega) hi]
          constructor
          · intro h
            rcases (Bool.or_eq_true _ _).mp h with h | h
            · obtain ⟨h1, h2⟩ := ih.mp h
              exact ⟨by omega, h2⟩
            · have h := of_decide_eq_true h
              subst h
              exact ⟨by omega, c1, c, hc, e, c3⟩
          · rintro ⟨h1, h2⟩
            by_cases q : i = n
            · exact (Bool.or_eq_true _ _).mpr (Or.inr (decide_eq_true q))
            · exact (Bool.or_eq_true _ _).mpr (Or.inl (ih.mpr ⟨by omega, h2⟩))
        · rw [if_neg c3, or_z]
          exact no (fun ⟨_, c9, h1, h2, h3⟩ => by
            have : c9 = c := (nI_eq (by omega) (by omega)).mp (h2.symm.trans e)
            subst this
            exact c3 h3)
    · rw [if_neg c1, or_z]
      exact no (fun h => c1 h.1)
theorem co5 {nt nc : Nat} (hnt : nt ≤ 12) (hnc : nc ≤ 5) {cf plf ow li ho co bo : Nat → Int32} {x : Int32} (hC : rlC nc cf ow li ho co bo) {i : Nat} (hi : i < 32) : ∀ n : Nat, n ≤ nc → (bt (s_X3_coatsOf_5 nt cf plf x 0 n) i = true ↔ i < nt ∧ ∃ c : Nat, c < n ∧ plf i = nI c ∧ ow c = x)
  | 0, _ => by
    rw [s_X3_coatsOf_5, b_0]
    exact ⟨fun h => absurd h (by decide), fun ⟨_, c, h, _⟩ => absurd h (Nat.not_lt_zero _)⟩
  | n + 1, hn => by
    have ih := co5 hnt hnc (plf := plf) (x := x) hC hi n (by omega)
    rw [s_X3_coatsOf_5]
    unfold s_X3_coatsOf_5s
    rw [ta3 5 0 rfl 5 0 rfl rfl (by omega) (by decide), ← (hC n (by omega)).1]
    by_cases c1 : ow n = x
    · rw [if_pos c1, b_or, ta_bt hi nt hnt]
      constructor
      · intro h
        rcases (Bool.or_eq_true _ _).mp h with h | h
        · obtain ⟨h1, c, h2, h3⟩ := ih.mp h
          exact ⟨h1, c, by omega, h3⟩
        · have h := of_decide_eq_true h
          exact ⟨h.1, n, by omega, h.2, c1⟩
      · rintro ⟨h1, c, h2, h3, h4⟩
        by_cases q : c = n
        · subst q; exact (Bool.or_eq_true _ _).mpr (Or.inr (decide_eq_true ⟨h1, h3⟩))
        · exact (Bool.or_eq_true _ _).mpr (Or.inl (ih.mpr ⟨h1, c, by omega, h3, h4⟩))
    · rw [if_neg c1, ih]
      constructor
      · rintro ⟨h1, c, h2, h3⟩; exact ⟨h1, c, by omega, h3⟩
      · rintro ⟨h1, c, h2, h3, h4⟩
        by_cases q : c = n
        · subst q; exact absurd h4 c1
        · exact ⟨h1, c, by omega, h3, h4⟩
theorem eq_coats {nt nc : Nat} (hnt : nt ≤ 12) (hnc : nc ≤ 5) {to tf cf plf ki he un wi va ht pl ow li ho co bo : Nat → Int32} {x : Int32} (hT : rlT nt tf ki he un wi va ht) (hC : rlC nc cf ow li ho co bo) (hL : rlL nt plf pl) (k1 : to 1 = nI nc) : s_X13_wear_43 to ow ki pl x 0 nt = s_X3_coatsOf nt nc cf tf plf x := by
  refine b_ext (fun i hi => Bool.eq_iff_iff.mpr ?_)
  rw [w43 hnt hnc k1 hi nt (Nat.le_refl _)]
  unfold s_X3_coatsOf
  rw [b_and, Bool.and_eq_true, co5 hnt hnc hC hi nc (Nat.le_refl _)]
  by_cases h12 : i < 12
  · rw [ok_bt h12 nt hnt, decide_eq_true_eq]
    constructor
    · rintro ⟨h1, h2, h3⟩
      rw [hL i h1] at h3
      rw [(hT i h1).1] at h2
      exact ⟨⟨h1, h3⟩, h1, h2⟩
    · rintro ⟨⟨h1, h3⟩, -, h2⟩
      rw [← hL i h1] at h3
      rw [← (hT i h1).1] at h2
      exact ⟨h1, h2, h3⟩
  · exact ⟨fun h => absurd h.1 (by omega), fun h => absurd h.1.1 (by omega)⟩
theorem w169 {nt : Nat} (hnt : nt ≤ 12) {tf ki he un wi va ht : Nat → Int32} (hT : rlT nt tf ki he un wi va ht) (t : Nat) : ∀ n : Nat, n ≤ nt → s_X13_wear_169 he ht t 0 0 n = (smS tf (nI t) 6 n, smS tf (nI t) 1 n)
  | 0, _ => rfl
  | n + 1, hn => by
    obtain ⟨-, t1, -, -, -, t6⟩ := hT n (by omega)
    have a6 : tat 84 tf (nI n * 7 + 6) = ht n := by rw [ta3 7 6 rfl 7 6 rfl rfl (by omega) (by decide), t6]
    have a1 : tat 84 tf (nI n * 7 + 1) = he n := by rw [ta3 7 1 rfl 7 1 rfl rfl (by omega) (by decide), t1]
    rw [s_X13_wear_169, w169 hnt hT t n (by omega), smS, smS, a6, a1]
    unfold s_X13_wear_169s
    by_cases c : ((nI t) >>> ((nI n) &&& 31)) &&& 1 = 0
    · rw [if_pos c, if_pos c, if_pos c]
    · rw [if_neg c, if_neg c, if_neg c]
def rWe (nt : Nat) (tf : Nat → Int32) (be wo : Int32) (R K : Int32 × Int32) : Prop := K.1 = R.2 ∧ ((R.2 = -1 ∧ K.2 = be - wo + 1) ∨ ∃ j : Nat, j < 4096 ∧ R.2 = nI j ∧ R.1 = smS tf (nI j) 6 nt ∧ K.2 = R.1 ∧ ¬ be < wo + R.1)
theorem eq_wear {nt nc np nz p : Nat} (hnt : nt ≤ 12) (hnc : nc ≤ 5) (hnp : np ≤ 4) {to tf cf pf plf ki he un wi va ht pl ow li ho co bo own po be : Nat → Int32} {y z : Int32} (hT : rlT nt tf ki he un wi va ht) (hC : rlC nc cf ow li ho co bo) (hP : rlP np pf own po be) (hL : rlL nt plf pl) (hz : ∀ t : Nat, t < nt → ¬ ki t = 1 → ht t = 0) (k0 : to 0 = nI np) (k1 : to 1 = nI nc) (hH : ∀ t : Nat, t < nt → ∃ k : Nat, k ≤ 9 ∧ ht t = nI k) (hb : ∃ k : Nat, k ≤ 30 ∧ be p = nI k) (hp : p < np) (hz2 : nz = 2 ^ nt) (hy : ¬ s_X13_isIn y.toInt64 0 200 = 0) :
    s_X13_wear nt to be ow ki he wi ht pl nz (nI p) y z = s_X12_wear nt nc pf cf tf plf (nI p) y z := by
  have ip9 : ¬ s_X13_isPerson to (nI p) = 0 := pe_in k0 (by omega) hp rfl
  have hnz : nz ≤ 4096 := by rw [hz2]; exact Nat.pow_le_pow_right (by decide) hnt
  have ec := eq_coats (x := nI p) hnt hnc hT hC hL k1
  have hh : s_X13_sumAt nt ki he wi ht pl (10 + nI p) 3 = heS nt tf plf (nI p) := eq_heat hnt hT hL hz
  have h6 : ∀ t : Nat, t < nt → ∃ k : Nat, k ≤ 9 ∧ tat 84 tf (nI t * 7 + 6) = nI k := fun t ht9 => by
    rw [ta3 7 6 rfl 7 6 rfl rfl (by omega) (by decide), ← (hT t ht9).2.2.2.2.2]
    exact hH t ht9
  have sb : ∀ bits : Int32, ∃ k : Nat, k ≤ 108 ∧ smS tf bits 6 nt = nI k := fun bits => by
    obtain ⟨k, h1, h2⟩ := sm_bd h6 bits nt (Nat.le_refl _)
    exact ⟨k, by omega, h2⟩
  obtain ⟨w, hw, ew⟩ : ∃ k : Nat, k ≤ 108 ∧ heS nt tf plf (nI p) = nI k := sb _
  obtain ⟨b, hb9, eb⟩ := hb
  have oc : ∀ i : Nat, nt ≤ i → i < 32 → bt (s_X3_coatsOf nt nc cf tf plf (nI p)) i = false := fun i h1 h2 => by
    cases q : bt (s_X3_coatsOf nt nc cf tf plf (nI p)) i with
    | false => rfl
    | true =>
      rw [← ec] at q
      exact absurd ((w43 hnt hnc k1 h2 nt (Nat.le_refl _)).mp q).1 (by omega)
  have cl : (nI p).toNatClampNeg = p := nI_clamp (by omega)
  have b2 : tat 12 pf (nI p * 3 + 2) = nI b := by rw [ta3 3 2 rfl 3 2 rfl rfl (by omega) (by decide), ← (hP p hp).2.2, eb]
  have st : ∀ (t : Nat) (R K : Int32 × Int32), t < 4096 → rWe nt tf (nI b) (nI w) R K → rWe nt tf (nI b) (nI w) (s_X13_wear_134s nt to be ow ki he wi ht pl (nI p) y t R.1 R.2) (s_X3_coatsToWear_40s nt nc cf tf plf (nI p) y t K.1 K.2) := by
    intro t R K ht9 hR
    unfold s_X13_wear_134s s_X3_coatsToWear_40s
    rw [ec, w169 hnt hT t nt (Nat.le_refl _), hh, ew, cl, eb]
    obtain ⟨h, h1, eh⟩ := sb (nI t)
    rw [eh]
    obtain ⟨r1, r2⟩ := hR
    have same : rWe nt tf (nI b) (nI w) (R.1, R.2) (K.1, K.2) := ⟨r1, r2⟩
    by_cases hs : (nI t) &&& ((s_X3_coatsOf nt nc cf tf plf (nI p)) ^^^ (-1)) = 0
    · rw [if_pos hs, if_pos hs]
      by_cases c1 : smS tf (nI t) 1 nt < y
      · simp only [if_pos c1, ite_self]
        exact same
      · simp only [if_neg c1]
        have new : ¬ nI b < nI w + nI h → rWe nt tf (nI b) (nI w) (nI h, nI t) (nI t, nI h) := fun q => ⟨rfl, Or.inr ⟨t, ht9, rfl, eh.symm, rfl, q⟩⟩
        rcases r2 with ⟨q1, q2⟩ | ⟨j, hj, q1, q2, q3, q4⟩
        · have e1 : K.2 ≤ nI h ↔ nI b < nI w + nI h := by rw [q2]; exact lin_w (by omega) (by omega) (by omega)
          by_cases c2 : nI b < nI w + nI h
          · rw [if_pos c2, if_pos (e1.mpr c2)]
            exact same
          · rw [if_neg c2, if_neg (fun q => c2 (e1.mp q)), if_pos q1]
            exact new c2
        · obtain ⟨l, hl9, el⟩ := sb (nI j)
          have eR : R.1 = nI l := q2.trans el
          have nR : ¬ R.2 = -1 := by rw [q1]; exact nI_n1 (by omega)
          have q4' : ¬ nI b < nI w + nI l := by rw [← eR]; exact q4
          by_cases c3 : nI h < R.1
          · have c3' := c3
            rw [eR, nI_ltI (by omega) (by omega)] at c3'
            have c2 : ¬ nI b < nI w + nI h := by
              rw [nI_add, nI_ltI (by omega) (by omega)] at q4' ⊢
              omega
            have c4 : ¬ K.2 ≤ nI h := by rw [q3]; exact Int32.not_le.mpr c3
            rw [if_neg c2, if_neg nR, if_pos c3, if_neg c4]
            exact new c2
          · have c4 : K.2 ≤ nI h := by rw [q3]; exact Int32.not_lt.mp c3
            simp only [if_neg nR, if_neg c3, if_pos c4, ite_self]
            exact same
    · rw [if_neg hs, if_neg hs]
      exact same
  have lo : ∀ n : Nat, n ≤ 4096 → rWe nt tf (nI b) (nI w) (s_X13_wear_134 nt to be ow ki he wi ht pl (nI p) y 0 (-1) n) (s_X3_coatsToWear_40 nt nc cf tf plf (nI p) y (-1) (nI b - nI w + 1) n) := by
    intro n
    induction n with
    | zero => intro _; exact ⟨rfl, Or.inl ⟨rfl, rfl⟩⟩
    | succ n ih =>
      intro hn
      rw [s_X13_wear_134, s_X3_coatsToWear_40]
      exact st n _ _ (by omega) (ih (by omega))
  have hi : ∀ d : Nat, nz + d ≤ 4096 → s_X3_coatsToWear_40 nt nc cf tf plf (nI p) y (-1) (nI b - nI w + 1) (nz + d) = s_X3_coatsToWear_40 nt nc cf tf plf (nI p) y (-1) (nI b - nI w + 1) nz := by
    intro d
    induction d with
    | zero => intro _; rfl
    | succ d ih =>
      intro hd
      rw [← Nat.add_assoc, s_X3_coatsToWear_40, ih (by omega)]
      unfold s_X3_coatsToWear_40s
      rw [if_neg (big_sub (nt := nt) (by omega) (by rw [← hz2]; omega) oc)]
  obtain ⟨l1, l2⟩ := lo nz hnz
  have e4 : s_X3_coatsToWear nt nc pf cf tf plf (nI p) y = (s_X13_wear_134 nt to be ow ki he wi ht pl (nI p) y 0 (-1) nz).2 := by
    unfold s_X3_coatsToWear
    rw [b2, ew, show (4096 : Nat) = nz + (4096 - nz) by omega, hi (4096 - nz) (by omega), l1]
  unfold s_X13_wear s_X12_wear
  rw [if_neg ip9, if_neg hy, e4]
  by_cases c : (s_X13_wear_134 nt to be ow ki he wi ht pl (nI p) y 0 (-1) nz).2 = -1
  · rw [if_pos c, if_pos c, c]
  · rw [if_neg c, if_neg c]
    by_cases c0 : z = 0
    · rw [if_pos c0, if_pos c0]
      rcases l2 with ⟨q, -⟩ | ⟨j, -, q1, q2, -⟩
      · exact absurd q c
      · rw [q1, q2]
    · rw [if_neg c0, if_neg c0]
end
