/-! what to pay for, to leave and to post: one in both -/
noncomputable section
def pyS (v q ρ : Nat → Nat) (t : Nat) : Nat := if ρ t = 1 then v t else if ρ t = 2 then q t else 0
def paS (v q ρ : Nat → Nat) : Nat → Nat
  | 0 => 0
  | t + 1 => paS v q ρ t + pyS v q ρ t
def swS (zb : Nat → Bool) (h ρ : Nat → Nat) : Nat → Nat
  | 0 => 0
  | t + 1 => swS zb h ρ t + (if zb t = true ∧ ρ t = 0 then h t else 0)
def cdS (ρ : Nat → Nat) : Nat → Nat
  | 0 => 0
  | t + 1 => cdS ρ t * 3 + ρ t
def vlR (zb pb : Nat → Bool) (n : Nat) (ρ : Nat → Nat) : Prop := ∀ t : Nat, t < n → ρ t = 0 ∨ (zb t = true ∧ (ρ t = 1 ∨ (ρ t = 2 ∧ pb t = true)))
def csR (v q h : Nat → Nat) (zb : Nat → Bool) (F : Nat → Nat → Nat) (n : Nat) (ρ : Nat → Nat) : Nat := paS v q ρ n + F (swS zb h ρ n) (swS zb (fun _ => 1) ρ n)
def KL (c1 k1 c2 k2 : Nat) : Prop := c1 < c2 ∨ (c1 = c2 ∧ k1 ≤ k2)
theorem KL_tr {a b c d e f : Nat} (h : KL a b c d) (g : KL c d e f) : KL a b e f := by unfold KL at *; omega
theorem KL_rf (a b : Nat) : KL a b a b := Or.inr ⟨rfl, Nat.le_refl _⟩
def uR (g : Nat → Nat) (t x : Nat) : Nat → Nat := fun u => if u = t then x else g u
theorem uR_s (g : Nat → Nat) (t x : Nat) : uR g t x t = x := if_pos rfl
theorem uR_n {g : Nat → Nat} {t x u : Nat} (h : u ≠ t) : uR g t x u = g u := if_neg h
theorem pa_ag {v q ρ σ : Nat → Nat} : ∀ t : Nat, (∀ u : Nat, u < t → ρ u = σ u) → paS v q ρ t = paS v q σ t
  | 0, _ => rfl
  | t + 1, h => by
    rw [paS, paS, pa_ag t (fun u hu => h u (by omega))]
    unfold pyS
    rw [h t (by omega)]
theorem sw_ag {zb : Nat → Bool} {h9 ρ σ : Nat → Nat} : ∀ t : Nat, (∀ u : Nat, u < t → ρ u = σ u) → swS zb h9 ρ t = swS zb h9 σ t
  | 0, _ => rfl
  | t + 1, h => by rw [swS, swS, sw_ag t (fun u hu => h u (by omega)), h t (by omega)]
theorem cd_ag {ρ σ : Nat → Nat} : ∀ t : Nat, (∀ u : Nat, u < t → ρ u = σ u) → cdS ρ t = cdS σ t
  | 0, _ => rfl
  | t + 1, h => by rw [cdS, cdS, cd_ag t (fun u hu => h u (by omega)), h t (by omega)]
theorem cs_ag {v q h : Nat → Nat} {zb : Nat → Bool} {F : Nat → Nat → Nat} {n : Nat} {ρ σ : Nat → Nat} (e : ∀ u : Nat, u < n → ρ u = σ u) : csR v q h zb F n ρ = csR v q h zb F n σ := by
  unfold csR
  rw [pa_ag n e, sw_ag n e, sw_ag n e]
theorem cd_b {ρ : Nat → Nat} {t : Nat} : ∀ r : Nat, (∀ u : Nat, u < t + r → ρ u ≤ 2) → 3 ^ r * cdS ρ t ≤ cdS ρ (t + r) ∧ cdS ρ (t + r) < 3 ^ r * (cdS ρ t + 1)
  | 0, _ => by rw [Nat.pow_zero, Nat.one_mul, Nat.one_mul]; exact ⟨Nat.le_refl _, Nat.lt_succ_self _⟩
  | r + 1, h => by
    obtain ⟨h1, h2⟩ := cd_b (ρ := ρ) (t := t) r (fun u hu => h u (by omega))
    have h3 := h (t + r) (by omega)
    rw [← Nat.add_assoc, cdS, Nat.pow_succ, Nat.mul_right_comm (3 ^ r) 3, Nat.mul_right_comm (3 ^ r) 3]
    omega
theorem pa_le {v q ρ : Nat → Nat} {t : Nat} : ∀ r : Nat, paS v q ρ t ≤ paS v q ρ (t + r)
  | 0 => Nat.le_refl _
  | r + 1 => by
    have := pa_le (v := v) (q := q) (ρ := ρ) (t := t) r
    rw [← Nat.add_assoc, paS]
    omega
theorem vl_2 {zb pb : Nat → Bool} {n : Nat} {ρ : Nat → Nat} (h : vlR zb pb n ρ) : ∀ u : Nat, u < n → ρ u ≤ 2 := fun u hu => by
  rcases h u hu with e | ⟨-, e | ⟨e, -⟩⟩ <;> omega
def dOK (n : Nat) (hw vl pr : Nat → Int32) (z : Int32) (fee : Int32 → Int32 → Int32) (v q h : Nat → Nat) (zb pb : Nat → Bool) (F : Nat → Nat → Nat) : Prop :=
  n ≤ 12 ∧ (∀ t : Nat, t < n → ((z >>> (nI t &&& 31)) &&& 1 = 0 ↔ zb t = false)) ∧ (∀ t : Nat, t < n → hw t = nI (h t) ∧ h t ≤ 60) ∧ (∀ t : Nat, t < n → vl t = nI (v t) ∧ v t ≤ 999) ∧ (∀ t : Nat, t < n → (pr t = -1 ∧ pb t = false) ∨ (pr t = nI (q t) ∧ q t ≤ 999 ∧ pb t = true)) ∧ ∀ w m : Nat, w ≤ 720 → fee (nI w) (nI m) = nI (F w m) ∧ F w m ≤ 9999
theorem sw_b {zb : Nat → Bool} {h ρ : Nat → Nat} {n b : Nat} (hh : ∀ t : Nat, t < n → h t ≤ b) : ∀ t : Nat, t ≤ n → swS zb h ρ t ≤ b * t
  | 0, _ => Nat.zero_le _
  | t + 1, ht => by
    have h1 := sw_b (zb := zb) (ρ := ρ) hh t (by omega)
    have h2 := hh t (by omega)
    rw [swS, Nat.mul_succ]
    split <;> omega
theorem pa_b {v q ρ : Nat → Nat} {zb pb : Nat → Bool} {n : Nat} (hv : ∀ t : Nat, t < n → v t ≤ 999) (hq : ∀ t : Nat, t < n → pb t = true → q t ≤ 999) : ∀ t : Nat, t ≤ n → vlR zb pb t ρ → paS v q ρ t ≤ 999 * t
  | 0, _, _ => Nat.zero_le _
  | t + 1, ht, hv9 => by
    have h1 := pa_b hv hq t (by omega) (fun u hu => hv9 u (by omega))
    have h2 := hv t (by omega)
    have h3 := hq t (by omega)
    rw [paS, Nat.mul_succ]
    unfold pyS
    rcases hv9 t (by omega) with e | ⟨-, e | ⟨e, e2⟩⟩
    · rw [e, if_neg (by omega), if_neg (by omega)]; omega
    · rw [e, if_pos rfl]; omega
    · have := h3 e2
      rw [e, if_neg (by omega), if_pos rfl]; omega
def isB (n : Nat) (v q h : Nat → Nat) (zb pb : Nat → Bool) (F : Nat → Nat → Nat) (s : S4) (ρ : Nat → Nat) : Prop := ¬ s.1 = 0 ∧ vlR zb pb n ρ ∧ s.2.1 = nI (csR v q h zb F n ρ) ∧ ∀ t : Nat, t < n → s.2.2.1 t = nI (ρ t)
def dPo (n : Nat) (v q h : Nat → Nat) (zb pb : Nat → Bool) (F : Nat → Nat → Nat) (r t : Nat) (g : Nat → Nat) (s s2 : S4) : Prop :=
  (∀ u : Nat, u < t → s2.2.2.2 u = nI (g u)) ∧ ∃ ρ2 : Nat → Nat, isB n v q h zb pb F s2 ρ2 ∧ cdS ρ2 n < 3 ^ r * (cdS g t + 1) ∧ (∀ ρ : Nat → Nat, isB n v q h zb pb F s ρ → KL (csR v q h zb F n ρ2) (cdS ρ2 n) (csR v q h zb F n ρ) (cdS ρ n)) ∧ ∀ ρ : Nat → Nat, vlR zb pb n ρ → (∀ u : Nat, u < t → ρ u = g u) → KL (csR v q h zb F n ρ2) (cdS ρ2 n) (csR v q h zb F n ρ) (cdS ρ n)
theorem cs_b {n : Nat} {hw vl pr : Nat → Int32} {z : Int32} {fee : Int32 → Int32 → Int32} {v q h : Nat → Nat} {zb pb : Nat → Bool} {F : Nat → Nat → Nat} (hD : dOK n hw vl pr z fee v q h zb pb F) {ρ : Nat → Nat} (hv : vlR zb pb n ρ) : csR v q h zb F n ρ ≤ 21987 ∧ fee (nI (swS zb h ρ n)) (nI (swS zb (fun _ => 1) ρ n)) = nI (F (swS zb h ρ n) (swS zb (fun _ => 1) ρ n)) := by
  obtain ⟨d1, d2, d3, d4, d5, d6⟩ := hD
  have h1 := sw_b (zb := zb) (ρ := ρ) (fun t ht => (d3 t ht).2) n (Nat.le_refl _)
  have h2 := pa_b (ρ := ρ) (fun t ht => (d4 t ht).2) (fun t ht hp => by
    rcases d5 t ht with ⟨-, e⟩ | ⟨-, e, -⟩
    · rw [e] at hp; exact absurd hp (by decide)
    · exact e) n (Nat.le_refl _) hv
  obtain ⟨f1, f2⟩ := d6 (swS zb h ρ n) (swS zb (fun _ => 1) ρ n) (by omega)
  unfold csR
  exact ⟨by omega, f1⟩
theorem isB_u {n : Nat} {hw vl pr : Nat → Int32} {z : Int32} {fee : Int32 → Int32 → Int32} {v q h : Nat → Nat} {zb pb : Nat → Bool} {F : Nat → Nat → Nat} {s : S4} {ρ σ : Nat → Nat} (h1 : isB n v q h zb pb F s ρ) (h2 : isB n v q h zb pb F s σ) : ∀ u : Nat, u < n → ρ u = σ u := fun u hu => by
  have e := (h1.2.2.2 u hu).symm.trans (h2.2.2.2 u hu)
  have b1 := vl_2 h1.2.1 u hu
  have b2 := vl_2 h2.2.1 u hu
  exact (nI_eq (by omega) (by omega)).mp e
theorem prn {n : Nat} {hw vl pr : Nat → Int32} {z : Int32} {fee : Int32 → Int32 → Int32} {v q h : Nat → Nat} {zb pb : Nat → Bool} {F : Nat → Nat → Nat} (hD : dOK n hw vl pr z fee v q h zb pb F) {r t P : Nat} {g : Nat → Nat} {s : S4} (hr : t + r = n) (h0 : s.1 = 0 ∨ ∃ ρ : Nat → Nat, isB n v q h zb pb F s ρ ∧ cdS ρ n < 3 ^ r * cdS g t) (hs : ¬ stp s (nI P) = 0) (hP : P < 2 ^ 30) (hle : ∀ ρ : Nat → Nat, vlR zb pb n ρ → (∀ u : Nat, u < t → ρ u = g u) → P ≤ csR v q h zb F n ρ) (ha : ∀ u : Nat, u < t → s.2.2.2 u = nI (g u)) : dPo n v q h zb pb F r t g s s := by
  rcases h0 with h0 | ⟨ρ0, hB, hc⟩
  · exact absurd (if_pos h0) hs
  · obtain ⟨b1, b2, b3, b4⟩ := id hB
    have cb := (cs_b hD b2).1
    have le : csR v q h zb F n ρ0 ≤ P := by
      refine Nat.le_of_not_lt (fun q9 => hs ?_)
      unfold stp
      rw [if_neg b1, b3, if_pos (nI_lt q9 (by omega))]
    refine ⟨ha, ρ0, hB, ?_, fun ρ hρ => ?_, fun ρ hv9 hag => ?_⟩
    · exact Nat.lt_of_lt_of_le hc (Nat.mul_le_mul_left _ (Nat.le_succ _))
    · have e := isB_u (hw := hw) (vl := vl) (pr := pr) (z := z) (fee := fee) hB hρ
      rw [cs_ag e, cd_ag n e]
      exact KL_rf _ _
    · have l2 := hle ρ hv9 hag
      have l3 := (cd_b (ρ := ρ) (t := t) r (fun u hu => vl_2 hv9 u (by omega))).1
      rw [hr, cd_ag t hag] at l3
      unfold KL
      omega
theorem dfs {n : Nat} {hw vl pr : Nat → Int32} {z : Int32} {fee : Int32 → Int32 → Int32} {v q h : Nat → Nat} {zb pb : Nat → Bool} {F : Nat → Nat → Nat} (hD : dOK n hw vl pr z fee v q h zb pb F) : ∀ (r t : Nat), t + r = n → ∀ (g : Nat → Nat) (w m p : Int32) (s : S4), vlR zb pb t g → w = nI (swS zb h g t) → m = nI (swS zb (fun _ => 1) g t) → p = nI (paS v q g t) → (∀ u : Nat, u < t → s.2.2.2 u = nI (g u)) → (s.1 = 0 ∨ ∃ ρ : Nat → Nat, isB n v q h zb pb F s ρ ∧ cdS ρ n < 3 ^ r * cdS g t) → dPo n v q h zb pb F r t g s (coS hw vl pr z n fee r t w m p s)
  | 0, t, hr, g, w, m, p, s, hv, ew, em, ep, ha, h0 => by
    have et : t = n := by omega
    subst et
    obtain ⟨cb, fe⟩ := cs_b hD hv
    have ce : p + fee w m = nI (csR v q h zb F t g) := by rw [ew, em, ep, fe, nI_add]; rfl
    have pc : paS v q g t ≤ csR v q h zb F t g := Nat.le_add_right _ _
    rw [coS]
    unfold coZ
    by_cases a : stp s p = 0
    · rw [if_pos a, ce]
      by_cases b : stp s (nI (csR v q h zb F t g)) = 0
      · rw [if_pos b]
        refine ⟨ha, g, ⟨by show ¬ (1 : Int32) = 0; decide, hv, rfl, fun u hu => ?_⟩, by rw [Nat.pow_zero, Nat.one_mul]; exact Nat.lt_succ_self _, fun ρ hρ => ?_, fun ρ hv9 hag => ?_⟩
        · show tcopy t s.2.2.1 s.2.2.2 u = _
          unfold tcopy
          rw [if_pos hu]; exact ha u hu
        · obtain ⟨b1, b2, b3, b4⟩ := hρ
          have cb2 := (cs_b hD b2).1
          unfold stp at b
          rw [if_neg b1, b3] at b
          by_cases q9 : nI (csR v q h zb F t g) < nI (csR v q h zb F t ρ)
          · exact Or.inl ((nI_ltI (by omega) (by omega)).mp q9)
          · rw [if_neg q9] at b; exact absurd b (by decide)
        · rw [cs_ag hag, cd_ag t hag]; exact KL_rf _ _
      · rw [if_neg b]
        exact prn hD hr h0 b (by omega) (fun ρ hv9 hag => by rw [cs_ag hag]; exact Nat.le_refl _) ha
    · rw [if_neg a]
      rw [ep] at a
      exact prn hD hr h0 a (by omega) (fun ρ hv9 hag => by rw [cs_ag hag]; exact pc) ha
  | r + 1, t, hr, g, w, m, p, s, hv, ew, em, ep, ha, h0 => by
    have ih := dfs hD r (t + 1) (by omega)
    obtain ⟨d1, d2, d3, d4, d5, d6⟩ := id hD
    obtain ⟨v1, v2⟩ := d4 t (by omega)
    obtain ⟨w1, w2⟩ := d3 t (by omega)
    have qb : ∀ t : Nat, t < n → pb t = true → q t ≤ 999 := fun t ht hp => by
      rcases d5 t ht with ⟨-, e⟩ | ⟨-, e, -⟩
      · rw [e] at hp; exact absurd hp (by decide)
      · exact e
    have pB := pa_b (ρ := g) (fun t ht => (d4 t ht).2) qb t (by omega) hv
    have ag : ∀ x : Nat, ∀ u : Nat, u < t → uR g t x u = g u := fun x u hu => uR_n (by omega)
    have sg : ∀ x : Nat, ∀ f : Nat → Nat, swS zb f (uR g t x) (t + 1) = swS zb f g t + (if zb t = true ∧ x = 0 then f t else 0) := fun x f => by
      rw [swS, sw_ag t (ag x), uR_s]
    have pg : ∀ x : Nat, paS v q (uR g t x) (t + 1) = paS v q g t + (if x = 1 then v t else if x = 2 then q t else 0) := fun x => by
      rw [paS, pa_ag t (ag x)]
      unfold pyS
      rw [uR_s]
    have cg : ∀ x : Nat, cdS (uR g t x) (t + 1) = cdS g t * 3 + x := fun x => by rw [cdS, cd_ag t (ag x), uR_s]
    have vg : ∀ x : Nat, (x = 0 ∨ (zb t = true ∧ (x = 1 ∨ (x = 2 ∧ pb t = true)))) → vlR zb pb (t + 1) (uR g t x) := fun x hx u hu => by
      by_cases e : u = t
      · subst e; rw [uR_s]; exact hx
      · rw [uR_n e]; exact hv u (by omega)
    have up : ∀ (s9 : S4) (x : Nat), (∀ u : Nat, u < t → s9.2.2.2 u = nI (g u)) → ∀ u : Nat, u < t + 1 → (sT s9 t (nI x)).2.2.2 u = nI (uR g t x u) := fun s9 x h9 u hu => by
      show upd s9.2.2.2 t (nI x) u = _
      by_cases e : u = t
      · subst e; rw [pk_us, uR_s]
      · rw [pk_un e, uR_n e]; exact h9 u (by omega)
    have dn : ∀ (s9 : S4) (x : Nat), (∀ u : Nat, u < t + 1 → s9.2.2.2 u = nI (uR g t x u)) → ∀ u : Nat, u < t → s9.2.2.2 u = nI (g u) := fun s9 x h9 u hu => by rw [h9 u (by omega), uR_n (by omega)]
    have p3 : 3 ^ (r + 1) * cdS g t = 3 ^ r * (cdS g t * 3) := by rw [Nat.pow_succ, Nat.mul_assoc, Nat.mul_comm 3]
    have p4 : 3 ^ (r + 1) * (cdS g t + 1) = 3 ^ r * (cdS g t * 3 + 3) := by rw [Nat.pow_succ, Nat.mul_assoc]; congr 1; omega
    have mo : ∀ a b : Nat, a ≤ b → 3 ^ r * a ≤ 3 ^ r * b := fun a b hab => Nat.mul_le_mul_left _ hab
    rw [coS]
    unfold coN
    by_cases a : stp s p = 0
    · rw [if_pos a]
      by_cases c : (z >>> (nI t &&& 31)) &&& 1 = 0
      · have zf := (d2 t (by omega)).mp c
        rw [if_pos c]
        have A := ih (uR g t 0) w m p (sT s t 0) (vg 0 (Or.inl rfl)) (by rw [sg, if_neg (fun z9 => by rw [zf] at z9; exact absurd z9.1 (by decide)), Nat.add_zero]; exact ew) (by rw [sg, if_neg (fun z9 => by rw [zf] at z9; exact absurd z9.1 (by decide)), Nat.add_zero]; exact em) (by rw [pg, if_neg (by decide), if_neg (by decide), Nat.add_zero]; exact ep) (up s 0 ha) (h0.imp id (fun ⟨ρ, hB, hc⟩ => ⟨ρ, hB, by rw [cg, Nat.add_zero, ← p3]; exact hc⟩))
        obtain ⟨A1, ρ2, A2, A3, A4, A5⟩ := A
        refine ⟨dn _ 0 A1, ρ2, A2, ?_, A4, fun ρ hv9 hag => A5 ρ hv9 (fun u hu => ?_)⟩
        · rw [cg] at A3
          rw [p4]
          exact Nat.lt_of_lt_of_le A3 (mo _ _ (by omega))
        · by_cases e : u = t
          · subst e
            rw [uR_s]
            rcases hv9 u (by omega) with e9 | ⟨e9, -⟩
            · exact e9
            · rw [zf] at e9; exact absurd e9 (by decide)
          · rw [uR_n e]; exact hag u (by omega)
      · have zt : zb t = true := by
          cases hz : zb t with
          | true => rfl
          | false => exact absurd ((d2 t (by omega)).mpr hz) c
        rw [if_neg c]
        have A := ih (uR g t 0) (w + hw t) (m + 1) p (sT s t 0) (vg 0 (Or.inl rfl)) (by rw [sg, if_pos ⟨zt, rfl⟩, ew, w1, nI_add]) (by rw [sg, if_pos ⟨zt, rfl⟩, em, nI_1]) (by rw [pg, if_neg (by decide), if_neg (by decide), Nat.add_zero]; exact ep) (up s 0 ha) (h0.imp id (fun ⟨ρ, hB, hc⟩ => ⟨ρ, hB, by rw [cg, Nat.add_zero, ← p3]; exact hc⟩))
        have eA : coA hw t (coS hw vl pr z n fee r (t + 1)) w m p s = coS hw vl pr z n fee r (t + 1) (w + hw t) (m + 1) p (sT s t 0) := rfl
        rw [← eA] at A
        unfold coB
        generalize coA hw t (coS hw vl pr z n fee r (t + 1)) w m p s = sA at A
        obtain ⟨A1, ρA, A2, A3, A4, A5⟩ := A
        have B := ih (uR g t 1) w m (p + vl t) (sT sA t 1) (vg 1 (Or.inr ⟨zt, Or.inl rfl⟩)) (by rw [sg, if_neg (fun z9 => absurd z9.2 (by decide)), Nat.add_zero]; exact ew) (by rw [sg, if_neg (fun z9 => absurd z9.2 (by decide)), Nat.add_zero]; exact em) (by rw [pg, if_pos rfl, ep, v1, nI_add]) (up sA 1 (dn sA 0 A1)) (Or.inr ⟨ρA, A2, by rw [cg]; rw [cg] at A3; exact A3⟩)
        generalize coS hw vl pr z n fee r (t + 1) w m (p + vl t) (sT sA t 1) = sB at B
        obtain ⟨B1, ρB, B2, B3, B4, B5⟩ := B
        have AB := B4 ρA A2
        by_cases c1 : pr t = -1
        · rw [if_pos c1]
          have nf : pb t = false := by
            rcases d5 t (by omega) with ⟨-, e⟩ | ⟨e, e2, -⟩
            · exact e
            · rw [e] at c1; exact absurd c1 (nI_n1 (by omega))
          refine ⟨fun u hu => ?_, ρB, B2, ?_, fun ρ hρ => KL_tr AB (A4 ρ hρ), fun ρ hv9 hag => ?_⟩
          · show upd (upd sB.2.2.2 t 2) t 0 u = _
            rw [pk_un (by omega), pk_un (by omega)]
            exact dn sB 1 B1 u hu
          · rw [cg] at B3
            rw [p4]
            exact Nat.lt_of_lt_of_le B3 (mo _ _ (by omega))
          · rcases hv9 t (by omega) with e9 | ⟨-, e9 | ⟨-, e9⟩⟩
            · exact KL_tr AB (A5 ρ hv9 (fun u hu => by
                by_cases e : u = t
                · subst e; rw [uR_s]; exact e9
                · rw [uR_n e]; exact hag u (by omega)))
            · exact B5 ρ hv9 (fun u hu => by
                by_cases e : u = t
                · subst e; rw [uR_s]; exact e9
                · rw [uR_n e]; exact hag u (by omega))
            · rw [nf] at e9; exact absurd e9 (by decide)
        · rw [if_neg c1]
          obtain ⟨q1, q2, q3⟩ : pr t = nI (q t) ∧ q t ≤ 999 ∧ pb t = true := by
            rcases d5 t (by omega) with ⟨e, -⟩ | e
            · exact absurd e c1
            · exact e
          have C := ih (uR g t 2) w m (p + pr t) (sT sB t 2) (vg 2 (Or.inr ⟨zt, Or.inr ⟨rfl, q3⟩⟩)) (by rw [sg, if_neg (fun z9 => absurd z9.2 (by decide)), Nat.add_zero]; exact ew) (by rw [sg, if_neg (fun z9 => absurd z9.2 (by decide)), Nat.add_zero]; exact em) (by rw [pg, if_neg (by decide), if_pos rfl, ep, q1, nI_add]) (up sB 2 (dn sB 1 B1)) (Or.inr ⟨ρB, B2, by rw [cg]; rw [cg] at B3; exact B3⟩)
          generalize coS hw vl pr z n fee r (t + 1) w m (p + pr t) (sT sB t 2) = sC at C
          obtain ⟨C1, ρC, C2, C3, C4, C5⟩ := C
          have BC := C4 ρB B2
          refine ⟨fun u hu => ?_, ρC, C2, ?_, fun ρ hρ => KL_tr BC (KL_tr AB (A4 ρ hρ)), fun ρ hv9 hag => ?_⟩
          · show upd sC.2.2.2 t 0 u = _
            rw [pk_un (by omega)]
            exact dn sC 2 C1 u hu
          · rw [cg] at C3
            rw [p4]
            exact Nat.lt_of_lt_of_le C3 (mo _ _ (by omega))
          · rcases hv9 t (by omega) with e9 | ⟨-, e9 | ⟨e9, -⟩⟩
            · exact KL_tr BC (KL_tr AB (A5 ρ hv9 (fun u hu => by
                by_cases e : u = t
                · subst e; rw [uR_s]; exact e9
                · rw [uR_n e]; exact hag u (by omega))))
            · exact KL_tr BC (B5 ρ hv9 (fun u hu => by
                by_cases e : u = t
                · subst e; rw [uR_s]; exact e9
                · rw [uR_n e]; exact hag u (by omega)))
            · exact C5 ρ hv9 (fun u hu => by
                by_cases e : u = t
                · subst e; rw [uR_s]; exact e9
                · rw [uR_n e]; exact hag u (by omega))
    · rw [if_neg a]
      rw [ep] at a
      refine prn hD hr h0 a (by omega) (fun ρ hv9 hag => ?_) ha
      rw [← pa_ag t hag]
      have := pa_le (v := v) (q := q) (ρ := ρ) (t := t) (r + 1)
      rw [hr] at this
      exact Nat.le_trans this (Nat.le_add_right _ _)
end
