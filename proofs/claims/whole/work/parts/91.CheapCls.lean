/-! the class's row of one case is the reference's -/
noncomputable section
def rwG (wo : Nat → Nat) (γ : Nat) : Nat → Nat := fun t => if γ.testBit t = true then wo t else 0
def woK (n : Nat) (v q wo : Nat → Nat) (pb : Nat → Bool) : Prop := ∀ t : Nat, t < n → (wo t = 1 ∧ (pb t = true → v t ≤ q t)) ∨ (wo t = 2 ∧ pb t = true ∧ q t < v t)
def sbG (zb : Nat → Bool) (n γ : Nat) : Prop := ∀ i : Nat, γ.testBit i = true → i < n ∧ zb i = true
theorem rw_vl {n : Nat} {v q wo : Nat → Nat} {zb pb : Nat → Bool} {γ : Nat} (hw : woK n v q wo pb) (hs : sbG zb n γ) : vlR zb pb n (rwG wo γ) := fun t ht => by
  unfold rwG
  by_cases b : γ.testBit t = true
  · rw [if_pos b]
    rcases hw t ht with ⟨e, -⟩ | ⟨e, e2, -⟩
    · exact Or.inr ⟨(hs t b).2, Or.inl e⟩
    · exact Or.inr ⟨(hs t b).2, Or.inr ⟨e, e2⟩⟩
  · rw [if_neg b]; exact Or.inl rfl
theorem fin_sp (ρ : Nat → Nat) : ∀ n : Nat, ∃ γ : Nat, γ < 2 ^ n ∧ ∀ i : Nat, (γ.testBit i = true ↔ i < n ∧ ρ i ≠ 0)
  | 0 => ⟨0, by decide, fun i => by rw [Nat.zero_testBit]; exact ⟨fun h => absurd h (by decide), fun h => absurd h.1 (Nat.not_lt_zero _)⟩⟩
  | n + 1 => by
    obtain ⟨γ, h1, h2⟩ := fin_sp ρ n
    have h3 : 2 ^ n < 2 ^ (n + 1) := by rw [Nat.pow_succ]; have := Nat.two_pow_pos n; omega
    by_cases e : ρ n = 0
    · refine ⟨γ, by omega, fun i => ?_⟩
      rw [h2 i]
      constructor
      · rintro ⟨a, b⟩; exact ⟨by omega, b⟩
      · rintro ⟨a, b⟩
        by_cases c : i = n
        · subst c; exact absurd e b
        · exact ⟨by omega, b⟩
    · refine ⟨γ ||| 2 ^ n, Nat.or_lt_two_pow (by omega) h3, fun i => ?_⟩
      rw [Nat.testBit_or, Bool.or_eq_true, h2 i, Nat.testBit_two_pow, decide_eq_true_eq]
      constructor
      · rintro (⟨a, b⟩ | a)
        · exact ⟨by omega, b⟩
        · subst a; exact ⟨by omega, e⟩
      · rintro ⟨a, b⟩
        by_cases c : n = i
        · exact Or.inr c
        · exact Or.inl ⟨by omega, b⟩
theorem cd_mo {σ ρ : Nat → Nat} : ∀ t : Nat, (∀ u : Nat, u < t → σ u ≤ ρ u) → cdS σ t ≤ cdS ρ t
  | 0, _ => Nat.le_refl _
  | t + 1, h => by
    have h1 := cd_mo t (fun u hu => h u (by omega))
    have h2 := h t (by omega)
    rw [cdS, cdS]; omega
theorem sw_z {zb : Nat → Bool} {f σ ρ : Nat → Nat} : ∀ t : Nat, (∀ u : Nat, u < t → (σ u = 0 ↔ ρ u = 0)) → swS zb f σ t = swS zb f ρ t
  | 0, _ => rfl
  | t + 1, h => by
    have h2 := h t (by omega)
    rw [swS, swS, sw_z t (fun u hu => h u (by omega))]
    by_cases c : ρ t = 0
    · rw [c, h2.mpr c]
    · rw [if_neg (fun z => c (h2.mp z.2)), if_neg (fun z => c z.2)]
theorem cd_inj {σ ρ : Nat → Nat} : ∀ t : Nat, (∀ u : Nat, u < t → σ u ≤ 2 ∧ ρ u ≤ 2) → cdS σ t = cdS ρ t → ∀ u : Nat, u < t → σ u = ρ u
  | 0, _, _, u, hu => absurd hu (Nat.not_lt_zero _)
  | t + 1, h, e, u, hu => by
    obtain ⟨h1, h2⟩ := h t (by omega)
    rw [cdS, cdS] at e
    by_cases c : u = t
    · subst c; omega
    · exact cd_inj t (fun u hu => h u (by omega)) (by omega) u (by omega)
theorem row_le {n : Nat} {v q h wo ρ : Nat → Nat} {zb pb : Nat → Bool} {F : Nat → Nat → Nat} {γ : Nat} (hw : woK n v q wo pb) (hv : vlR zb pb n ρ) (hγ : ∀ i : Nat, (γ.testBit i = true ↔ i < n ∧ ρ i ≠ 0)) : KL (csR v q h zb F n (rwG wo γ)) (cdS (rwG wo γ) n) (csR v q h zb F n ρ) (cdS ρ n) := by
  have e : ∀ t : Nat, t < n → rwG wo γ t = if ρ t = 0 then 0 else wo t := fun t ht => by
    unfold rwG
    by_cases c : ρ t = 0
    · rw [if_pos c, if_neg (fun z => ((hγ t).mp z).2 c)]
    · rw [if_neg c, if_pos ((hγ t).mpr ⟨ht, c⟩)]
  have dg : ∀ t : Nat, t < n → (rwG wo γ t = 0 ↔ ρ t = 0) ∧ (pyS v q (rwG wo γ) t < pyS v q ρ t ∨ (pyS v q (rwG wo γ) t = pyS v q ρ t ∧ rwG wo γ t ≤ ρ t)) := fun t ht => by
    unfold pyS
    rw [e t ht]
    rcases hv t ht with e0 | ⟨-, e0 | ⟨e0, p0⟩⟩
    · rw [e0, if_pos rfl]; exact ⟨Iff.rfl, Or.inr ⟨rfl, Nat.le_refl _⟩⟩
    · rw [e0, if_neg (by decide)]
      rcases hw t ht with ⟨w1, w2⟩ | ⟨w1, w2, w3⟩
      · rw [w1]; exact ⟨Iff.intro (fun z => absurd z (by decide)) (fun z => absurd z (by decide)), Or.inr ⟨rfl, Nat.le_refl _⟩⟩
      · rw [w1, if_neg (by decide), if_pos rfl, if_pos rfl]; exact ⟨Iff.intro (fun z => absurd z (by decide)) (fun z => absurd z (by decide)), Or.inl w3⟩
    · rw [e0, if_neg (by decide)]
      rcases hw t ht with ⟨w1, w2⟩ | ⟨w1, w2, w3⟩
      · have := w2 p0
        rw [w1, if_pos rfl, if_neg (by decide), if_pos rfl]
        exact ⟨Iff.intro (fun z => absurd z (by decide)) (fun z => absurd z (by decide)), by omega⟩
      · rw [w1]; exact ⟨Iff.intro (fun z => absurd z (by decide)) (fun z => absurd z (by decide)), Or.inr ⟨rfl, Nat.le_refl _⟩⟩
  have pc : ∀ t : Nat, t ≤ n → paS v q (rwG wo γ) t < paS v q ρ t ∨ (paS v q (rwG wo γ) t = paS v q ρ t ∧ ∀ u : Nat, u < t → rwG wo γ u ≤ ρ u) := by
    intro t
    induction t with
    | zero => intro _; exact Or.inr ⟨rfl, fun u hu => absurd hu (Nat.not_lt_zero _)⟩
    | succ t ih =>
      intro ht
      obtain ⟨-, d2⟩ := dg t (by omega)
      rw [paS, paS]
      rcases ih (by omega) with i1 | ⟨i1, i2⟩
      · rcases d2 with d2 | ⟨d2, -⟩ <;> exact Or.inl (by omega)
      · rcases d2 with d2 | ⟨d2, d3⟩
        · exact Or.inl (by omega)
        · refine Or.inr ⟨by omega, fun u hu => ?_⟩
          by_cases c : u = t
          · subst c; exact d3
          · exact i2 u (by omega)
  unfold csR
  rw [sw_z (f := h) n (fun u hu => (dg u hu).1), sw_z (f := fun _ => 1) n (fun u hu => (dg u hu).1)]
  rcases pc n (Nat.le_refl _) with c | ⟨c1, c2⟩
  · exact Or.inl (by omega)
  · exact Or.inr ⟨by omega, cd_mo n c2⟩
theorem pa_z {v q ρ : Nat → Nat} {n : Nat} (h : ∀ u : Nat, n ≤ u → ρ u = 0) : ∀ r : Nat, paS v q ρ (n + r) = paS v q ρ n
  | 0 => rfl
  | r + 1 => by
    rw [← Nat.add_assoc, paS, pa_z h r]
    unfold pyS
    rw [h _ (by omega), if_neg (by decide), if_neg (by decide), Nat.add_zero]
theorem cd_z {ρ : Nat → Nat} {n : Nat} (h : ∀ u : Nat, n ≤ u → ρ u = 0) : ∀ r : Nat, cdS ρ (n + r) = cdS ρ n * 3 ^ r
  | 0 => by rw [Nat.pow_zero, Nat.mul_one]; rfl
  | r + 1 => by rw [← Nat.add_assoc, cdS, cd_z h r, h _ (by omega), Nat.pow_succ, Nat.add_zero, Nat.mul_assoc]
theorem sw_o {zb : Nat → Bool} {f ρ : Nat → Nat} {n : Nat} (h : ∀ u : Nat, zb u = true → u < n) : ∀ r : Nat, swS zb f ρ (n + r) = swS zb f ρ n
  | 0 => rfl
  | r + 1 => by rw [← Nat.add_assoc, swS, sw_o h r, if_neg (fun z => absurd (h _ z.1) (by omega)), Nat.add_zero]
theorem lt_bits {x : Int32} (h : ∀ i : Nat, 12 ≤ i → i < 32 → bt x i = false) : ∃ k : Nat, k < 4096 ∧ x = nI k := by
  refine ⟨x.toBitVec.toNat, ?_, Int32.toBitVec_inj.mp (by show _ = BitVec.ofNat 32 _; simp)⟩
  refine Nat.lt_pow_two_of_testBit (n := 12) _ (fun i hi => ?_)
  by_cases h32 : i < 32
  · exact h i hi h32
  · exact Nat.testBit_lt_two_pow (Nat.lt_of_lt_of_le x.toBitVec.isLt (Nat.pow_le_pow_right (by decide) (by omega)))
theorem bc_cn : ∀ a : Nat, a < 64 → ∀ b : Nat, b < 64 → bcI (nI (a * 64 + b)) = nI (cntI (nI (a * 64 + b)) 12) := by decide +kernel
theorem bc_ct {k : Nat} (h : k < 4096) : bcI (nI k) = nI (cntI (nI k) 12) := by
  have := bc_cn (k / 64) (by omega) (k % 64) (by omega)
  rw [show k / 64 * 64 + k % 64 = k by omega] at this
  exact this
theorem g_bit {γ t : Nat} (hγ : γ < 4096) (ht : t < 32) : ((nI γ) >>> (nI t &&& 31)) &&& 1 = 0 ↔ ¬ γ.testBit t = true := by
  rw [bt_tst ht, bt_nI (by omega) ht]
  cases γ.testBit t <;> decide
theorem ct_sw {zb : Nat → Bool} {wo : Nat → Nat} {X : Int32} {γ n : Nat} (hX : ∀ i : Nat, i < 32 → bt X i = (zb i && !γ.testBit i)) (hwo : ∀ t : Nat, zb t = true → ¬ wo t = 0) : ∀ t : Nat, t ≤ 12 → cntI X t = swS zb (fun _ => 1) (rwG wo γ) t
  | 0, _ => rfl
  | t + 1, ht => by
    have ih := ct_sw (n := n) hX hwo t (by omega)
    rw [cntI, swS, ih]
    have hb := hX t (by omega)
    unfold rwG
    by_cases c : (X >>> (nI t &&& 31)) &&& 1 = 0
    · rw [if_pos c]
      have cb := (bt_tst (by omega)).mp c
      rw [hb] at cb
      rw [if_neg (fun z => ?_), Nat.add_zero]
      obtain ⟨z1, z2⟩ := z
      rw [z1, Bool.true_and] at cb
      have z3 : γ.testBit t = true := by cases q : γ.testBit t with
        | true => rfl
        | false => rw [q] at cb; exact absurd cb (by decide)
      rw [if_pos z3] at z2
      exact hwo t z1 z2
    · rw [if_neg c]
      have cb : bt X t = true := by cases q : bt X t with
        | true => rfl
        | false => exact absurd ((bt_tst (by omega)).mpr q) c
      rw [hb, Bool.and_eq_true, Bool.not_eq_true'] at cb
      rw [if_pos ⟨cb.1, by rw [cb.2, if_neg (by decide)]⟩]
theorem sm_sw {nt : Nat} (hnt : nt ≤ 12) {tf : Nat → Int32} {h : Nat → Nat} {zb : Nat → Bool} {wo : Nat → Nat} {X : Int32} {γ : Nat} (hX : ∀ i : Nat, i < 32 → bt X i = (zb i && !γ.testBit i)) (hwo : ∀ t : Nat, zb t = true → ¬ wo t = 0) (hh : ∀ t : Nat, t < nt → tat 84 tf (nI t * 7 + 1) = nI (h t)) : ∀ t : Nat, t ≤ nt → smS tf X 1 t = nI (swS zb h (rwG wo γ) t)
  | 0, _ => rfl
  | t + 1, ht => by
    have ih := sm_sw hnt hX hwo hh t (by omega)
    rw [smS, swS, ih, hh t (by omega)]
    have hb := hX t (by omega)
    unfold rwG
    by_cases c : (X >>> (nI t &&& 31)) &&& 1 = 0
    · rw [if_pos c]
      have cb := (bt_tst (by omega)).mp c
      rw [hb] at cb
      rw [if_neg (fun z => ?_), Nat.add_zero]
      obtain ⟨z1, z2⟩ := z
      rw [z1, Bool.true_and] at cb
      have z3 : γ.testBit t = true := by cases q : γ.testBit t with
        | true => rfl
        | false => rw [q] at cb; exact absurd cb (by decide)
      rw [if_pos z3] at z2
      exact hwo t z1 z2
    · rw [if_neg c]
      have cb : bt X t = true := by cases q : bt X t with
        | true => rfl
        | false => exact absurd ((bt_tst (by omega)).mpr q) c
      rw [hb, Bool.and_eq_true, Bool.not_eq_true'] at cb
      rw [if_pos ⟨cb.1, by rw [cb.2, if_neg (by decide)]⟩, nI_add]
theorem lo_pa {n : Nat} (hn : n ≤ 12) {v q wo : Nat → Nat} {pb zb : Nat → Bool} {lof : Nat → Int32} {γ : Nat} (hγ : γ < 4096) (hw : woK n v q wo pb) (hs : sbG zb n γ) (hl : ∀ t : Nat, t < n → lof t = nI (if wo t = 2 then q t else v t)) : ∀ t : Nat, t ≤ 12 → s_X3_lossOf_4 lof (nI γ) 0 t = nI (paS v q (rwG wo γ) t)
  | 0, _ => rfl
  | t + 1, ht => by
    have ih := lo_pa hn hγ hw hs hl t (by omega)
    rw [s_X3_lossOf_4, paS, ih]
    unfold s_X3_lossOf_4s pyS rwG
    by_cases c : γ.testBit t = true
    · rw [if_neg (fun z => ((g_bit hγ (by omega)).mp z) c), if_pos c, tat_in (by omega) (by decide), hl t (hs t c).1, nI_add]
      rcases hw t (hs t c).1 with ⟨w1, -⟩ | ⟨w1, -⟩
      · rw [w1, if_pos rfl, if_neg (by decide)]
      · simp only [w1, show ¬ (2 : Nat) = 1 from by decide, if_true, if_false]
    · rw [if_pos ((g_bit hγ (by omega)).mpr c), if_neg c, if_neg (by decide), if_neg (by decide), Int32.add_zero, Nat.add_zero]
theorem fw_r {n : Nat} (hn : n ≤ 12) {wo : Nat → Nat} {zb : Nat → Bool} {wof : Nat → Int32} {γ : Nat} (hγ : γ < 4096) (hs : sbG zb n γ) (hl : ∀ t : Nat, t < n → wof t = nI (wo t)) {t : Nat} (ht : t < 12) : s_X3_fateWith wof (nI γ) (nI t) = nI (rwG wo γ t) := by
  unfold s_X3_fateWith rwG
  by_cases c : γ.testBit t = true
  · rw [if_neg (fun z => ((g_bit hγ (by omega)).mp z) c), if_pos c, tat_in (by omega) (by decide), hl t (hs t c).1]
  · rw [if_pos ((g_bit hγ (by omega)).mpr c), if_neg c]; rfl
theorem ro_cd {n : Nat} (hn : n ≤ 12) {wo : Nat → Nat} {zb : Nat → Bool} {wof : Nat → Int32} {γ : Nat} (hγ : γ < 4096) (hs : sbG zb n γ) (hl : ∀ t : Nat, t < n → wof t = nI (wo t)) : ∀ t : Nat, t ≤ 12 → s_X3_rowOf_4 wof (nI γ) 0 t = nI (cdS (rwG wo γ) t)
  | 0, _ => rfl
  | t + 1, ht => by
    rw [s_X3_rowOf_4, cdS, ro_cd hn hγ hs hl t (by omega)]
    unfold s_X3_rowOf_4s
    rw [fw_r hn hγ hs hl (by omega), show (3 : Int32) = nI 3 from rfl, pk_mul, nI_add]
theorem kr_at {wof faf : Nat → Int32} {x : Int32} : ∀ n : Nat, n ≤ 12 → ∀ t : Nat, t < n → s_X3_keepRow_2 wof x faf n t = s_X3_fateWith wof x (nI t)
  | 0, _, t, h => absurd h (Nat.not_lt_zero _)
  | n + 1, hn, t, h => by
    rw [s_X3_keepRow_2]
    unfold s_X3_keepRow_2s
    rw [tset_in (by omega) (by decide)]
    by_cases e : t = n
    · subst e; rw [pk_us]
    · rw [pk_un e]; exact kr_at n (by omega) t (by omega)
theorem fl_at {nt nq : Nat} (hnt : nt ≤ 12) {tf qf lof wof : Nat → Int32} {v q wo : Nat → Nat} (h1 : ∀ t : Nat, t < nt → tat 84 tf (nI t * 7 + 4) = nI (v t) ∧ v t ≤ 999) (h2 : ∀ t : Nat, t < nt → (prS qf (tat 84 tf (nI t * 7 + 1)) nq 0 = -1 ∧ wo t = 1) ∨ (prS qf (tat 84 tf (nI t * 7 + 1)) nq 0 = nI (q t) ∧ q t ≤ 999 ∧ wo t = if v t ≤ q t then 1 else 2)) : ∀ n : Nat, n ≤ nt → ∀ t : Nat, t < n → (s_X3_findLosses_2 nq tf qf lof wof n).1 t = nI (if wo t = 2 then q t else v t) ∧ (s_X3_findLosses_2 nq tf qf lof wof n).2 t = nI (wo t)
  | 0, _, t, h => absurd h (Nat.not_lt_zero _)
  | n + 1, hn, t, h => by
    have ih := fl_at hnt (lof := lof) (wof := wof) h1 h2 n (by omega) t
    rw [s_X3_findLosses_2]
    unfold s_X3_findLosses_2s
    generalize s_X3_findLosses_2 nq tf qf lof wof n = S at ih
    obtain ⟨a1, a2⟩ := h1 n (by omega)
    rw [a1]
    rcases h2 n (by omega) with ⟨b1, b2⟩ | ⟨b1, b2, b3⟩
    · rw [if_pos b1]
      show tset 12 S.1 (nI n) _ t = _ ∧ tset 12 S.2 (nI n) 1 t = _
      rw [tset_in (by omega) (by decide), tset_in (by omega) (by decide)]
      by_cases e : t = n
      · subst e; rw [pk_us, pk_us, b2]; exact ⟨rfl, rfl⟩
      · rw [pk_un e, pk_un e]; exact ih (by omega)
    · rw [b1, if_neg (nI_n1 (by omega))]
      by_cases c : v n ≤ q n
      · rw [if_pos ((nI_leI (by omega) (by omega)).mpr c)]
        rw [if_pos c] at b3
        show tset 12 S.1 (nI n) _ t = _ ∧ tset 12 S.2 (nI n) 1 t = _
        rw [tset_in (by omega) (by decide), tset_in (by omega) (by decide)]
        by_cases e : t = n
        · subst e; rw [pk_us, pk_us, b3]; exact ⟨rfl, rfl⟩
        · rw [pk_un e, pk_un e]; exact ih (by omega)
      · rw [if_neg (fun z => c ((nI_leI (by omega) (by omega)).mp z))]
        rw [if_neg c] at b3
        show tset 12 S.1 (nI n) _ t = _ ∧ tset 12 S.2 (nI n) 2 t = _
        rw [tset_in (by omega) (by decide), tset_in (by omega) (by decide)]
        by_cases e : t = n
        · subst e; rw [pk_us, pk_us, b3]; exact ⟨rfl, rfl⟩
        · rw [pk_un e, pk_un e]; exact ih (by omega)
theorem pr_b {nq : Nat} (hnq : nq ≤ 6) {qf : Nat → Int32} {w : Int32} (h : ∀ i : Nat, i < nq → ∃ k : Nat, qf (2 * i + 1) = nI k ∧ k ≤ 999) : ∀ r i : Nat, i + r = nq → prS qf w r i = -1 ∨ ∃ k : Nat, prS qf w r i = nI k ∧ k ≤ 999
  | 0, i, _ => Or.inl rfl
  | r + 1, i, hi => by
    rw [prS, ta3 2 1 rfl 2 1 rfl rfl (by omega) (by decide)]
    split
    · exact pr_b hnq h r (i + 1) (by omega)
    · exact Or.inr (h i (by omega))
theorem fb_b {ns a b c : Nat} {to f li bo : Nat → Int32} {z : Int32} (hc : c < 10) (ha : a ≤ 720) (hb : b ≤ 200) (hl : li c = nI b) : ∃ k : Nat, k ≤ 9999 ∧ feeByS ns to f li bo (nI c) (nI a) z = nI k := by
  unfold feeByS
  rw [nI_clamp (by omega), hl, imax_sub (by omega) (by omega)]
  by_cases c1 : nI (a - b) = 0
  · rw [if_pos c1]; exact ⟨0, by omega, rfl⟩
  · rw [if_neg c1]
    by_cases c2 : to 6 = 0
    · rw [if_pos c2, show (10 : Int32) = nI 10 from rfl, pk_mul]
      unfold imin
      rw [if_pos (by rw [show (9999 : Int32) = nI 9999 from rfl]; exact nI_lt (by omega) (by omega))]
      exact ⟨_, by omega, rfl⟩
    · rw [if_neg c2]
      generalize feeM ns f (nI (a - b)) (nI a) (nI b) z (bo c) = X
      unfold imax
      by_cases c3 : 0 < imin 9999 X
      · rw [if_pos c3]
        have le : imin 9999 X ≤ 9999 := by
          unfold imin
          by_cases c4 : X < 9999
          · rw [if_pos c4]; exact Int32.le_of_lt c4
          · rw [if_neg c4]; exact Int32.le_refl _
        exact nI_of2 (n := 9999) (by decide) (fun q => absurd (Int32.lt_trans c3 q) Int32.lt_irrefl) le
      · rw [if_neg c3]; exact ⟨0, by omega, rfl⟩
end
