/-! lawful, lost, safe: the class's and the reference's answers are one -/
noncomputable section
theorem hk_iff {nt : Nat} (hnt : nt ≤ 12) {tf : Nat → Int32} {B k : Int32} (hB : ∀ i : Nat, nt ≤ i → i < 32 → bt B i = false) : hkS nt tf B k = 0 ↔ ¬ ∃ t : Nat, t < nt ∧ bt B t = true ∧ tf (7 * t + 0) = k := by
  unfold hkS
  constructor
  · rintro h ⟨t, h1, h2, h3⟩
    by_cases q : B &&& okS tf k nt = 0
    · have : bt (B &&& okS tf k nt) t = true := by rw [b_and, h2, ok_bt (by omega) nt hnt, decide_eq_true ⟨h1, h3⟩]; rfl
      rw [q, b_0] at this
      exact absurd this (by decide)
    · rw [if_neg q] at h; exact absurd h (by decide)
  · intro h
    rw [if_pos]
    refine b_ext (fun i hi => ?_)
    rw [b_0, b_and]
    by_cases c : i < nt
    · rw [ok_bt (by omega) nt hnt]
      cases hb : bt B i with
      | false => rfl
      | true => rw [decide_eq_false (fun q => h ⟨i, c, hb, q.2⟩)]; rfl
    · rw [hB i (by omega) hi]; rfl
theorem hk_01 (nt : Nat) (tf : Nat → Int32) (B k : Int32) : hkS nt tf B k = 0 ∨ hkS nt tf B k = 1 := by
  unfold hkS
  split
  · exact Or.inl rfl
  · exact Or.inr rfl
theorem ta_out {nt : Nat} (hnt : nt ≤ 12) {plf : Nat → Int32} {p : Int32} : ∀ i : Nat, nt ≤ i → i < 32 → bt (taS plf p nt) i = false := by
  intro i h1 h2
  rw [ta_bt h2 nt hnt, decide_eq_false (fun q => by omega)]
theorem lw_55 {ki pl : Nat → Int32} {c : Nat} : ∀ n : Nat, ((s_X13_lawful_55 ki pl c 0 0 n).1 = if (∃ t : Nat, t < n ∧ pl t = nI c ∧ (ki t = 1 ∨ ki t = 5)) then 1 else 0) ∧ ((s_X13_lawful_55 ki pl c 0 0 n).2 = if (∃ t : Nat, t < n ∧ pl t = nI c ∧ ki t = 3) then 1 else 0)
  | 0 => by
    rw [if_neg (fun ⟨t, h, _⟩ => absurd h (Nat.not_lt_zero _)), if_neg (fun ⟨t, h, _⟩ => absurd h (Nat.not_lt_zero _))]
    exact ⟨rfl, rfl⟩
  | n + 1 => by
    obtain ⟨i1, i2⟩ := lw_55 (ki := ki) (pl := pl) (c := c) n
    have s1 : (∃ t : Nat, t < n + 1 ∧ pl t = nI c ∧ (ki t = 1 ∨ ki t = 5)) ↔ ((∃ t : Nat, t < n ∧ pl t = nI c ∧ (ki t = 1 ∨ ki t = 5)) ∨ (pl n = nI c ∧ (ki n = 1 ∨ ki n = 5))) := by
      constructor
      · rintro ⟨t, h1, h2⟩
        by_cases e : t = n
        · subst e; exact Or.inr h2
        · exact Or.inl ⟨t, by omega, h2⟩
      · rintro (⟨t, h1, h2⟩ | h)
        · exact ⟨t, by omega, h2⟩
        · exact ⟨n, by omega, h⟩
    have s2 : (∃ t : Nat, t < n + 1 ∧ pl t = nI c ∧ ki t = 3) ↔ ((∃ t : Nat, t < n ∧ pl t = nI c ∧ ki t = 3) ∨ (pl n = nI c ∧ ki n = 3)) := by
      constructor
      · rintro ⟨t, h1, h2⟩
        by_cases e : t = n
        · subst e; exact Or.inr h2
        · exact Or.inl ⟨t, by omega, h2⟩
      · rintro (⟨t, h1, h2⟩ | h)
        · exact ⟨t, by omega, h2⟩
        · exact ⟨n, by omega, h⟩
    rw [s_X13_lawful_55, i1, i2]
    unfold s_X13_lawful_55s
    simp only [s1, s2]
    have n31 : ¬ (3 : Int32) = 1 := by decide
    have n35 : ¬ (3 : Int32) = 5 := by decide
    have n10 : ¬ (1 : Int32) = 0 := by decide
    by_cases a : (∃ t : Nat, t < n ∧ pl t = nI c ∧ (ki t = 1 ∨ ki t = 5)) <;> by_cases b : (∃ t : Nat, t < n ∧ pl t = nI c ∧ ki t = 3) <;> by_cases d : pl n = nI c <;> by_cases e3 : ki n = 3 <;> by_cases e1 : ki n = 1 <;> by_cases e5 : ki n = 5 <;> simp only [a, b, d, e3, e1, e5, n31, n35, n10, if_true, if_false, or_true, true_or, or_false, false_or, and_true, and_false, true_and, false_and, and_self, or_self] <;> first | exact ⟨trivial, trivial⟩ | exact ⟨rfl, rfl⟩ | (exfalso; rw [e1] at e3; exact absurd e3 (by decide)) | (exfalso; rw [e5] at e3; exact absurd e3 (by decide)) | (exfalso; rw [e1] at e5; exact absurd e5 (by decide))
theorem ta_ex {nt : Nat} (hnt : nt ≤ 12) {tf plf ki he un wi va ht pl : Nat → Int32} {c : Nat} {k : Int32} (hT : rlT nt tf ki he un wi va ht) (hL : rlL nt plf pl) : hkS nt tf (taS plf (nI c) nt) k = 0 ↔ ¬ ∃ t : Nat, t < nt ∧ pl t = nI c ∧ ki t = k := by
  rw [hk_iff hnt (ta_out hnt)]
  refine not_congr ⟨?_, ?_⟩
  · rintro ⟨t, h1, h2, h3⟩
    rw [ta_bt (by omega) nt hnt] at h2
    have h2 := (of_decide_eq_true h2).2
    exact ⟨t, h1, by rw [hL t h1]; exact h2, by rw [(hT t h1).1]; exact h3⟩
  · rintro ⟨t, h1, h2, h3⟩
    exact ⟨t, h1, by rw [ta_bt (by omega) nt hnt]; exact decide_eq_true ⟨h1, by rw [← hL t h1]; exact h2⟩, by rw [← (hT t h1).1]; exact h3⟩
theorem eq_lawful {nt nc : Nat} (hnt : nt ≤ 12) (hnc : nc ≤ 5) {tf cf plf ki he un wi va ht pl ow li ho co bo : Nat → Int32} (hT : rlT nt tf ki he un wi va ht) (hC : rlC nc cf ow li ho co bo) (hL : rlL nt plf pl) : s_X13_lawful nt nc li ki he wi ht pl = s_X12_lawful nt nc cf tf plf := by
  have k2 : ∀ r c : Nat, c + r = nc → s_X13_lawful_38 nt ki pl r c = lwS (fun c => taS plf (nI c) nt) (fun b k => hkS nt tf b k) r c := by
    intro r
    induction r with
    | zero => intro c _; rfl
    | succ r ih =>
      intro c hc
      obtain ⟨i1, i2⟩ := lw_55 (ki := ki) (pl := pl) (c := c) nt
      have q3 := ta_ex (c := c) (k := 3) hnt hT hL
      have q1 := ta_ex (c := c) (k := 1) hnt hT hL
      have q5 := ta_ex (c := c) (k := 5) hnt hT hL
      rw [s_X13_lawful_38, lwS, i1, i2, ih (c + 1) (by omega)]
      by_cases g : ∃ t : Nat, t < nt ∧ pl t = nI c ∧ ki t = 3
      · rw [if_pos g, if_neg (show ¬ (1 : Int32) = 0 by decide), if_neg (fun q => (q3.mp q) g)]
        by_cases f1 : ∃ t : Nat, t < nt ∧ pl t = nI c ∧ ki t = 1
        · rw [if_neg (fun q => (q1.mp q) f1), if_pos (show ∃ t : Nat, t < nt ∧ pl t = nI c ∧ (ki t = 1 ∨ ki t = 5) from ⟨f1.choose, f1.choose_spec.1, f1.choose_spec.2.1, Or.inl f1.choose_spec.2.2⟩), if_neg (show ¬ (1 : Int32) = 0 by decide)]
        · rw [if_pos (q1.mpr f1)]
          by_cases f5 : ∃ t : Nat, t < nt ∧ pl t = nI c ∧ ki t = 5
          · rw [if_neg (fun q => (q5.mp q) f5), if_pos (show ∃ t : Nat, t < nt ∧ pl t = nI c ∧ (ki t = 1 ∨ ki t = 5) from ⟨f5.choose, f5.choose_spec.1, f5.choose_spec.2.1, Or.inr f5.choose_spec.2.2⟩), if_neg (show ¬ (1 : Int32) = 0 by decide)]
          · rw [if_pos (q5.mpr f5), if_neg (show ¬ ∃ t : Nat, t < nt ∧ pl t = nI c ∧ (ki t = 1 ∨ ki t = 5) from fun ⟨t, h1, h2, h3⟩ => h3.elim (fun h => f1 ⟨t, h1, h2, h⟩) (fun h => f5 ⟨t, h1, h2, h⟩)), if_pos rfl]
      · rw [if_neg g, if_pos rfl, if_pos (q3.mpr g)]
  have k1 : ∀ r c : Nat, c + r = nc → s_X13_lawful_7 nt nc li ki he wi ht pl r c = if loS (fun c => ovS nt cf tf plf (nI c)) r c = -1 then lwS (fun c => taS plf (nI c) nt) (fun b k => hkS nt tf b k) nc 0 else 20 + loS (fun c => ovS nt cf tf plf (nI c)) r c := by
    intro r
    induction r with
    | zero => intro c _; rw [s_X13_lawful_7, loS, if_pos rfl]; exact k2 nc 0 (Nat.zero_add _)
    | succ r ih =>
      intro c hc
      have eo : s_X13_overOf nt li ki he wi ht pl (nI c) = ovS nt cf tf plf (nI c) := by
        unfold s_X13_overOf
        rw [nI_clamp (by omega)]
        exact eq_over hnt hT hC hL (by omega) hnc
      rw [s_X13_lawful_7, loS, eo, ih (c + 1) (by omega)]
      by_cases g : ovS nt cf tf plf (nI c) ≤ 0
      · rw [if_pos g, if_pos g]
      · rw [if_neg g, if_neg g, if_neg (nI_n1 (by omega))]
  exact k1 nc 0 (Nat.zero_add _)
/-- what hangs on a person and in his cases -/
theorem hs_bt {nt nc : Nat} (hnt : nt ≤ 12) (hnc : nc ≤ 5) {cf plf ow li ho co bo : Nat → Int32} {p lost : Int32} (hC : rlC nc cf ow li ho co bo) {i : Nat} (hi : i < 32) : ∀ n : Nat, n ≤ nc → (bt (hsS nt cf plf p lost n) i = true ↔ i < nt ∧ (plf i = 10 + p ∨ ∃ c : Nat, c < n ∧ ¬ nI c = lost ∧ ow c = p ∧ plf i = nI c))
  | 0, _ => by
    rw [hsS, ta_bt hi nt hnt]
    constructor
    · intro h; have := of_decide_eq_true h; exact ⟨this.1, Or.inl this.2⟩
    · rintro ⟨h1, h2 | ⟨c, h, _⟩⟩
      · exact decide_eq_true ⟨h1, h2⟩
      · exact absurd h (Nat.not_lt_zero _)
  | n + 1, hn => by
    have ih := hs_bt hnt hnc (plf := plf) (p := p) (lost := lost) hC hi n (by omega)
    rw [hsS, ta3 5 0 rfl 5 0 rfl rfl (by omega) (by decide), ← (hC n (by omega)).1]
    have up : (bt (hsS nt cf plf p lost n) i = true) → (i < nt ∧ (plf i = 10 + p ∨ ∃ c : Nat, c < n + 1 ∧ ¬ nI c = lost ∧ ow c = p ∧ plf i = nI c)) := by
      intro h
      obtain ⟨h1, h2⟩ := ih.mp h
      exact ⟨h1, h2.imp id (fun ⟨c, a, b⟩ => ⟨c, by omega, b⟩)⟩
    by_cases c1 : nI n = lost
    · rw [if_pos c1]
      refine ⟨up, ?_⟩
      rintro ⟨h1, h2 | ⟨c, a, b, d⟩⟩
      · exact ih.mpr ⟨h1, Or.inl h2⟩
      · by_cases e : c = n
        · subst e; exact absurd c1 b
        · exact ih.mpr ⟨h1, Or.inr ⟨c, by omega, b, d⟩⟩
    · rw [if_neg c1]
      by_cases c2 : ow n = p
      · rw [if_pos c2, b_or]
        constructor
        · intro h
          rcases (Bool.or_eq_true _ _).mp h with h | h
          · exact up h
          · rw [ta_bt hi nt hnt] at h
            have h := of_decide_eq_true h
            exact ⟨h.1, Or.inr ⟨n, by omega, c1, c2, h.2⟩⟩
        · rintro ⟨h1, h2 | ⟨c, a, b, d1, d2⟩⟩
          · exact (Bool.or_eq_true _ _).mpr (Or.inl (ih.mpr ⟨h1, Or.inl h2⟩))
          · by_cases e : c = n
            · subst e
              refine (Bool.or_eq_true _ _).mpr (Or.inr ?_)
              rw [ta_bt hi nt hnt]
              exact decide_eq_true ⟨h1, d2⟩
            · exact (Bool.or_eq_true _ _).mpr (Or.inl (ih.mpr ⟨h1, Or.inr ⟨c, by omega, b, d1, d2⟩⟩))
      · rw [if_neg c2]
        refine ⟨up, ?_⟩
        rintro ⟨h1, h2 | ⟨c, a, b, d1, d2⟩⟩
        · exact ih.mpr ⟨h1, Or.inl h2⟩
        · by_cases e : c = n
          · subst e; exact absurd d1 c2
          · exact ih.mpr ⟨h1, Or.inr ⟨c, by omega, b, d1, d2⟩⟩
theorem eq_shirt {nt nc : Nat} (hnt : nt ≤ 12) (hnc : nc ≤ 5) {to tf cf plf ki he un wi va ht pl ow li ho co bo : Nat → Int32} {x lost : Int32} (hT : rlT nt tf ki he un wi va ht) (hC : rlC nc cf ow li ho co bo) (hL : rlL nt plf pl) (k1 : to 1 = nI nc) : s_X13_hasShirt nt to ow ki pl x lost = hkS nt tf (hsS nt cf plf x lost nc) 5 := by
  have ec : ∀ w : Int32, s_X13_isCase to w = 0 ↔ ¬ ∃ c : Nat, c < nc ∧ w = nI c := fun w => in_iff k1 (by omega)
  have key : ∀ r t : Nat, t + r = nt → (s_X13_hasShirt_2 to ow ki pl x lost r t = 0 ∨ s_X13_hasShirt_2 to ow ki pl x lost r t = 1) ∧ (s_X13_hasShirt_2 to ow ki pl x lost r t = 0 ↔ ¬ ∃ u : Nat, t ≤ u ∧ u < nt ∧ ki u = 5 ∧ (pl u = 10 + x ∨ ∃ c : Nat, c < nc ∧ ¬ nI c = lost ∧ ow c = x ∧ pl u = nI c)) := by
    intro r
    induction r with
    | zero => intro t ht; exact ⟨Or.inl rfl, ⟨fun _ ⟨u, h1, h2, _⟩ => by omega, fun _ => rfl⟩⟩
    | succ r ih =>
      intro t ht
      obtain ⟨ih1, ih2⟩ := ih (t + 1) (by omega)
      have nx : ¬ (ki t = 5 ∧ (pl t = 10 + x ∨ ∃ c : Nat, c < nc ∧ ¬ nI c = lost ∧ ow c = x ∧ pl t = nI c)) → ((¬ ∃ u : Nat, t + 1 ≤ u ∧ u < nt ∧ ki u = 5 ∧ (pl u = 10 + x ∨ ∃ c : Nat, c < nc ∧ ¬ nI c = lost ∧ ow c = x ∧ pl u = nI c)) ↔ ¬ ∃ u : Nat, t ≤ u ∧ u < nt ∧ ki u = 5 ∧ (pl u = 10 + x ∨ ∃ c : Nat, c < nc ∧ ¬ nI c = lost ∧ ow c = x ∧ pl u = nI c)) := by
        intro hno
        refine not_congr ⟨fun ⟨u, a, b⟩ => ⟨u, by omega, b⟩, fun ⟨u, a, b, d⟩ => ?_⟩
        by_cases e : u = t
        · subst e; exact absurd d hno
        · exact ⟨u, by omega, b, d⟩
      have yes : (ki t = 5 ∧ (pl t = 10 + x ∨ ∃ c : Nat, c < nc ∧ ¬ nI c = lost ∧ ow c = x ∧ pl t = nI c)) → (((1 : Int32) = 0 ∨ (1 : Int32) = 1) ∧ ((1 : Int32) = 0 ↔ ¬ ∃ u : Nat, t ≤ u ∧ u < nt ∧ ki u = 5 ∧ (pl u = 10 + x ∨ ∃ c : Nat, c < nc ∧ ¬ nI c = lost ∧ ow c = x ∧ pl u = nI c))) := by
        intro hy
        exact ⟨Or.inr rfl, ⟨fun q => absurd q (by decide), fun q => absurd ⟨t, Nat.le_refl _, by omega, hy⟩ q⟩⟩
      rw [s_X13_hasShirt_2]
      by_cases c1 : ki t = 5
      · rw [if_pos c1]
        by_cases c2 : pl t = 10 + x
        · rw [if_pos c2]; exact yes ⟨c1, Or.inl c2⟩
        · rw [if_neg c2]
          by_cases c3 : s_X13_isCase to (pl t) = 0
          · rw [if_pos c3]
            refine ⟨ih1, ih2.trans (nx ?_)⟩
            rintro ⟨-, h | ⟨c, a, b, d, e⟩⟩
            · exact c2 h
            · exact (ec _).mp c3 ⟨c, a, e⟩
          · rw [if_neg c3]
            obtain ⟨c, hc, e⟩ := Classical.not_not.mp (fun q => c3 ((ec _).mpr q))
            by_cases c4 : pl t = lost
            · rw [if_pos c4]
              refine ⟨ih1, ih2.trans (nx ?_)⟩
              rintro ⟨-, h | ⟨c9, a, b, d, e9⟩⟩
              · exact c2 h
              · exact b (e9.symm.trans c4)
            · rw [if_neg c4, e, nI_clamp (by omega)]
              by_cases c5 : ow c = x
              · rw [if_pos c5]; exact yes ⟨c1, Or.inr ⟨c, hc, fun q => c4 (e.trans q), c5, e⟩⟩
              · rw [if_neg c5]
                refine ⟨ih1, ih2.trans (nx ?_)⟩
                rintro ⟨-, h | ⟨c9, a, b, d, e9⟩⟩
                · exact c2 h
                · have : c9 = c := (nI_eq (by omega) (by omega)).mp (e9.symm.trans e)
                  subst this
                  exact c5 d
      · rw [if_neg c1]
        exact ⟨ih1, ih2.trans (nx (fun q => c1 q.1))⟩
  obtain ⟨r1, r2⟩ := key nt 0 (Nat.zero_add _)
  have hk := hk_iff (tf := tf) (B := hsS nt cf plf x lost nc) (k := 5) hnt (fun i h1 h2 => by
    cases hb : bt (hsS nt cf plf x lost nc) i with
    | false => rfl
    | true => exact absurd ((hs_bt hnt hnc hC h2 nc (Nat.le_refl _)).mp hb).1 (by omega))
  have e : hkS nt tf (hsS nt cf plf x lost nc) 5 = 0 ↔ ¬ ∃ u : Nat, 0 ≤ u ∧ u < nt ∧ ki u = 5 ∧ (pl u = 10 + x ∨ ∃ c : Nat, c < nc ∧ ¬ nI c = lost ∧ ow c = x ∧ pl u = nI c) := by
    rw [hk]
    refine not_congr ⟨?_, ?_⟩
    · rintro ⟨t, h1, h2, h3⟩
      have h4 := (hs_bt hnt hnc hC (by omega) nc (Nat.le_refl _)).mp h2
      rw [← hL t h1] at h4
      exact ⟨t, Nat.zero_le _, h1, by rw [(hT t h1).1]; exact h3, h4.2⟩
    · rintro ⟨t, -, h1, h2, h3⟩
      refine ⟨t, h1, (hs_bt hnt hnc hC (by omega) nc (Nat.le_refl _)).mpr ⟨h1, by rw [← hL t h1]; exact h3⟩, by rw [← (hT t h1).1]; exact h2⟩
  unfold s_X13_hasShirt
  by_cases q : hkS nt tf (hsS nt cf plf x lost nc) 5 = 0
  · rw [q]; exact r2.mpr (e.mp q)
  · rw [(hk_01 nt tf _ 5).resolve_left q]
    exact r1.resolve_left (fun h => q (e.mpr (r2.mp h)))
theorem eq_lost {nt nc np : Nat} (hnt : nt ≤ 12) (hnc : nc ≤ 5) {to tf cf plf ki he un wi va ht pl ow li ho co bo : Nat → Int32} {x : Int32} (hT : rlT nt tf ki he un wi va ht) (hC : rlC nc cf ow li ho co bo) (hL : rlL nt plf pl) (k1 : to 1 = nI nc) : s_X13_lostBy nt np to ow ki pl x = s_X12_lost nt nc np cf tf plf x := by
  have key : ∀ n : Nat, s_X13_lostBy_4 nt to ow ki pl x 0 n = noShS (fun x lo => hkS nt tf (hsS nt cf plf x lo nc) 5) x n := by
    intro n
    induction n with
    | zero => rfl
    | succ n ih =>
      rw [s_X13_lostBy_4, s_X13_lostBy_4s, noShS, ih, eq_shirt hnt hnc hT hC hL k1, eq_shirt hnt hnc hT hC hL k1, or_z]
  exact key np
theorem eq_safe {nt nc np : Nat} (hnt : nt ≤ 12) (hnc : nc ≤ 5) {to tf cf plf ki he un wi va ht pl ow li ho co bo : Nat → Int32} (hT : rlT nt tf ki he un wi va ht) (hC : rlC nc cf ow li ho co bo) (hL : rlL nt plf pl) (k1 : to 1 = nI nc) : s_X13_safe nt nc np to ow ki pl = s_X12_safe nt nc np cf tf plf := by
  have key : ∀ n : Nat, s_X13_safe_9 nt np to ow ki pl 0 n = s_X12_safe_4 nt nc np cf tf plf 0 n := by
    intro n
    induction n with
    | zero => rfl
    | succ n ih =>
      rw [s_X13_safe_9, s_X13_safe_9s, s_X12_safe_4, s_X12_safe_4s, ih, eq_lost hnt hnc hT hC hL k1, or_z]
      rfl
  exact key nc
end
