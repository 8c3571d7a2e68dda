/-! things put anew into cases: what the reference's search tells -/
noncomputable section
def sN (w : Nat → Nat) (pl : Nat → Int32) (p : Int32) : Nat → Nat
  | 0 => 0
  | t + 1 => sN w pl p t + (if pl t = p then w t else 0)
theorem sN_at {ki he wi ht pl : Nat → Int32} {p y : Int32} {w : Nat → Nat} {nt : Nat} (h : ∀ t : Nat, t < nt → ∀ a : Int32, s_X13_sumAt_5s ki he wi ht pl p y t a = if pl t = p then a + nI (w t) else a) : ∀ n : Nat, n ≤ nt → s_X13_sumAt_5 ki he wi ht pl p y 0 n = nI (sN w pl p n)
  | 0, _ => rfl
  | n + 1, hn => by
    rw [s_X13_sumAt_5, sN_at h n (by omega), h n (by omega), sN]
    by_cases c : pl n = p
    · rw [if_pos c, if_pos c, nI_add]
    · rw [if_neg c, if_neg c, Nat.add_zero]
theorem sN_1 {nt : Nat} {ki he wi ht pl : Nat → Int32} {p : Int32} {w : Nat → Nat} (h : ∀ t : Nat, t < nt → he t = nI (w t)) : s_X13_sumAt nt ki he wi ht pl p 1 = nI (sN w pl p nt) := by
  refine sN_at (nt := nt) (fun t ht9 a => ?_) nt (Nat.le_refl _)
  unfold s_X13_sumAt_5s
  simp only [show ¬ (1 : Int32) = 0 from by decide, if_true, if_false, ite_self]
  rw [h t ht9]
theorem sN_2 {nt : Nat} {ki he wi ht pl : Nat → Int32} {p : Int32} {w : Nat → Nat} (h : ∀ t : Nat, t < nt → wi t = nI (w t)) : s_X13_sumAt nt ki he wi ht pl p 2 = nI (sN w pl p nt) := by
  refine sN_at (nt := nt) (fun t ht9 a => ?_) nt (Nat.le_refl _)
  unfold s_X13_sumAt_5s
  simp only [show ¬ (2 : Int32) = 0 from by decide, show ¬ (2 : Int32) = 1 from by decide, if_true, if_false, ite_self]
  rw [h t ht9]
theorem sN_3 {nt : Nat} {ki he wi ht pl : Nat → Int32} {p : Int32} {w : Nat → Nat} (h : ∀ t : Nat, t < nt → ht t = nI (w t)) (hz : ∀ t : Nat, t < nt → ¬ ki t = 1 → ht t = 0) : s_X13_sumAt nt ki he wi ht pl p 3 = nI (sN w pl p nt) := by
  refine sN_at (nt := nt) (fun t ht9 a => ?_) nt (Nat.le_refl _)
  unfold s_X13_sumAt_5s
  simp only [show ¬ (3 : Int32) = 0 from by decide, show ¬ (3 : Int32) = 1 from by decide, show ¬ (3 : Int32) = 2 from by decide, if_true, if_false]
  rw [← h t ht9]
  by_cases k : ki t = 1
  · rw [if_pos k]
  · rw [if_neg k, hz t ht9 k]
theorem sN_b {w : Nat → Nat} {pl : Nat → Int32} {p : Int32} {nt b : Nat} (h : ∀ t : Nat, t < nt → w t ≤ b) : ∀ n : Nat, n ≤ nt → sN w pl p n ≤ b * n
  | 0, _ => Nat.zero_le _
  | n + 1, hn => by
    have h1 := sN_b (pl := pl) (p := p) h n (by omega)
    have h2 := h n (by omega)
    rw [sN, Nat.mul_succ]
    split <;> omega
theorem sN_lo {w : Nat → Nat} {pl P : Nat → Int32} {d : Int32} {t nt : Nat} (h : ∀ u : Nat, u < nt → pl u = d → P u = d) (h1 : ¬ pl t = d) (h2 : P t = d) : ∀ n : Nat, n ≤ nt → sN w pl d n + (if t < n then w t else 0) ≤ sN w P d n
  | 0, _ => by rw [if_neg (Nat.not_lt_zero _)]; exact Nat.le_refl _
  | n + 1, hn => by
    have ih := sN_lo (w := w) h h1 h2 n (by omega)
    rw [sN, sN]
    by_cases e : n = t
    · subst e
      rw [if_neg h1, if_pos h2, if_pos (by omega)]
      rw [if_neg (by omega)] at ih
      omega
    · have hh := h n (by omega)
      have i1 : (if t < n + 1 then w t else 0) = if t < n then w t else 0 := by
        by_cases z : t < n
        · rw [if_pos z, if_pos (by omega)]
        · rw [if_neg z, if_neg (by omega)]
      rw [i1]
      generalize (if t < n then w t else 0) = x at ih ⊢
      by_cases c : pl n = d
      · rw [if_pos c, if_pos (hh c)]; omega
      · rw [if_neg c]
        by_cases e2 : P n = d
        · rw [if_pos e2]; omega
        · rw [if_neg e2]; omega
theorem sN_hi {w : Nat → Nat} {pl P : Nat → Int32} {d : Int32} {t nt : Nat} (h : ∀ u : Nat, u < nt → u ≠ t → P u = d → pl u = d) : ∀ n : Nat, n ≤ nt → sN w P d n ≤ sN w pl d n + (if t < n then w t else 0)
  | 0, _ => Nat.zero_le _
  | n + 1, hn => by
    have ih := sN_hi (w := w) h n (by omega)
    rw [sN, sN]
    by_cases e : n = t
    · subst e
      rw [if_pos (show n < n + 1 by omega)]
      rw [if_neg (by omega)] at ih
      split <;> split <;> omega
    · have hh := h n (by omega) e
      have i1 : (if t < n + 1 then w t else 0) = if t < n then w t else 0 := by
        by_cases z : t < n
        · rw [if_pos z, if_pos (by omega)]
        · rw [if_neg z, if_neg (by omega)]
      rw [i1]
      by_cases c : P n = d
      · rw [if_pos c, if_pos (hh c)]; omega
      · rw [if_neg c]; split <;> omega
theorem any_if {f : Nat → Int32} : ∀ r c : Nat, ¬ anyN f r c = 0 ↔ ∃ i : Nat, c ≤ i ∧ i < c + r ∧ ¬ f i = 0
  | 0, c => by rw [anyN]; exact ⟨fun h => absurd rfl h, fun ⟨i, a, b, _⟩ => absurd a (by omega)⟩
  | r + 1, c => by
    rw [anyN]
    by_cases e : f c = 0
    · rw [if_pos e, any_if r (c + 1)]
      constructor
      · rintro ⟨i, a, b, d⟩; exact ⟨i, by omega, by omega, d⟩
      · rintro ⟨i, a, b, d⟩
        by_cases z : i = c
        · subst z; exact absurd e d
        · exact ⟨i, by omega, by omega, d⟩
    · rw [if_neg e]
      exact ⟨fun _ => ⟨c, Nat.le_refl _, by omega, e⟩, fun _ => by decide⟩
theorem ow_if {ow : Nat → Int32} {x z : Int32} {nc : Nat} (hnc : nc ≤ 5) : ∀ r c : Nat, c + r = nc → (¬ s_X13_ownsOne_2 ow x z r c = 0 ↔ ∃ i : Nat, c ≤ i ∧ i < nc ∧ bt z i = true ∧ ow i = x)
  | 0, c, hc => by rw [s_X13_ownsOne_2]; exact ⟨fun h => absurd rfl h, fun ⟨i, a, b, _⟩ => absurd a (by omega)⟩
  | r + 1, c, hc => by
    have ih := ow_if hnc (ow := ow) (x := x) (z := z) r (c + 1) (by omega)
    have no : ¬ (bt z c = true ∧ ow c = x) → ((∃ i : Nat, c + 1 ≤ i ∧ i < nc ∧ bt z i = true ∧ ow i = x) ↔ ∃ i : Nat, c ≤ i ∧ i < nc ∧ bt z i = true ∧ ow i = x) := fun hno => by
      constructor
      · rintro ⟨i, a, b⟩; exact ⟨i, by omega, b⟩
      · rintro ⟨i, a, b, d⟩
        by_cases e : i = c
        · subst e; exact absurd d hno
        · exact ⟨i, by omega, b, d⟩
    rw [s_X13_ownsOne_2]
    by_cases c1 : (z >>> (nI c &&& 31)) &&& 1 = 1
    · have b1 := (bt_tst1 (by omega)).mp c1
      rw [if_pos c1]
      by_cases c2 : ow c = x
      · rw [if_pos c2]; exact ⟨fun _ => ⟨c, Nat.le_refl _, by omega, b1, c2⟩, fun _ => by decide⟩
      · rw [if_neg c2]; exact ih.trans (no (fun h => c2 h.2))
    · rw [if_neg c1]; exact ih.trans (no (fun h => c1 ((bt_tst1 (by omega)).mpr h.1)))
def gdP (nt nc np : Nat) (w h g Ho Li Be : Nat → Nat) (ki bo ow : Nat → Int32) (y z : Int32) (t : Nat) (pl P : Nat → Int32) : Prop :=
  (∀ u : Nat, u < nt → (bt y u = false ∨ u < t) → P u = pl u) ∧ (∀ u : Nat, t ≤ u → u < nt → bt y u = true → (∃ c : Nat, c < nc ∧ P u = nI c ∧ bt z c = true ∧ ¬ (ki u = 2 ∧ bo c = 1)) ∨ (ki u = 1 ∧ ∃ p : Nat, p < np ∧ P u = nI (10 + p) ∧ ∃ c : Nat, c < nc ∧ bt z c = true ∧ ow c = nI p)) ∧ (∀ c : Nat, c < nc → (∃ u : Nat, t ≤ u ∧ u < nt ∧ bt y u = true ∧ P u = nI c) → sN w P (nI c) nt ≤ Ho c ∧ sN h P (nI c) nt ≤ Li c) ∧ ∀ p : Nat, p < np → (∃ u : Nat, t ≤ u ∧ u < nt ∧ bt y u = true ∧ P u = nI (10 + p)) → sN g P (nI (10 + p)) nt ≤ Be p
def pOK9 (nt nc np : Nat) (w h g Ho Li Be : Nat → Nat) (be ow li ho bo ki he wi ht : Nat → Int32) : Prop :=
  nt ≤ 12 ∧ nc ≤ 5 ∧ np ≤ 4 ∧ (∀ t : Nat, t < nt → wi t = nI (w t) ∧ w t ≤ 20) ∧ (∀ t : Nat, t < nt → he t = nI (h t) ∧ h t ≤ 60) ∧ (∀ t : Nat, t < nt → ht t = nI (g t) ∧ g t ≤ 9) ∧ (∀ t : Nat, t < nt → ¬ ki t = 1 → ht t = 0) ∧ (∀ c : Nat, c < nc → ho c = nI (Ho c) ∧ Ho c ≤ 60 ∧ li c = nI (Li c) ∧ Li c ≤ 200 ∧ (bo c = 0 ∨ bo c = 1)) ∧ ∀ p : Nat, p < np → be p = nI (Be p) ∧ Be p ≤ 30
theorem pcC_if {nt nc np : Nat} {w h g Ho Li Be : Nat → Nat} {be ow li ho bo ki he wi ht pl : Nat → Int32} {z : Int32} (hD : pOK9 nt nc np w h g Ho Li Be be ow li ho bo ki he wi ht) {t c : Nat} (ht9 : t < nt) (hc : c < nc) : ¬ pcC nt nc be ow li ho bo ki he wi ht z pl t c = 0 ↔ bt z c = true ∧ ¬ (ki t = 2 ∧ bo c = 1) ∧ sN w pl (nI c) nt + w t ≤ Ho c ∧ sN h pl (nI c) nt + h t ≤ Li c := by
  obtain ⟨d1, d2, d3, d4, d5, d6, d7, d8, d9⟩ := hD
  have s2 : s_X13_sumAt nt ki he wi ht pl (nI c) 2 = nI (sN w pl (nI c) nt) := sN_2 (fun t h => (d4 t h).1)
  have s1 : s_X13_sumAt nt ki he wi ht pl (nI c) 1 = nI (sN h pl (nI c) nt) := sN_1 (fun t h => (d5 t h).1)
  have b2 := sN_b (w := w) (pl := pl) (p := nI c) (fun t h => (d4 t h).2) nt (Nat.le_refl _)
  have b1 := sN_b (w := h) (pl := pl) (p := nI c) (fun t h => (d5 t h).2) nt (Nat.le_refl _)
  obtain ⟨e1, e2, e3, e4, e5⟩ := d8 c hc
  obtain ⟨w1, w2⟩ := d4 t ht9
  obtain ⟨h1, h2⟩ := d5 t ht9
  unfold pcC
  rw [s1, s2, w1, h1, e1, e3, nI_add, nI_add]
  by_cases c0 : (z >>> (nI c &&& 31)) &&& 1 = 0
  · rw [if_pos c0]
    exact ⟨fun q => absurd rfl q, fun q => by rw [(bt_tst (by omega)).mp c0] at q; exact absurd q.1 (by decide)⟩
  · have cb : bt z c = true := by cases q : bt z c with
      | true => rfl
      | false => exact absurd ((bt_tst (by omega)).mpr q) c0
    rw [if_neg c0]
    have fin : ¬ (ki t = 2 ∧ bo c = 1) → (¬ (if nI (Ho c) < nI (sN w pl (nI c) nt + w t) then (0 : Int32) else if nI (sN h pl (nI c) nt + h t) ≤ nI (Li c) then 1 else 0) = 0 ↔ bt z c = true ∧ ¬ (ki t = 2 ∧ bo c = 1) ∧ sN w pl (nI c) nt + w t ≤ Ho c ∧ sN h pl (nI c) nt + h t ≤ Li c) := fun hno => by
      by_cases q1 : Ho c < sN w pl (nI c) nt + w t
      · rw [if_pos ((nI_ltI (by omega) (by omega)).mpr q1)]
        exact ⟨fun q => absurd rfl q, fun q => absurd q.2.2.1 (by omega)⟩
      · rw [if_neg (fun q => q1 ((nI_ltI (by omega) (by omega)).mp q))]
        by_cases q2 : sN h pl (nI c) nt + h t ≤ Li c
        · rw [if_pos ((nI_leI (by omega) (by omega)).mpr q2)]
          exact ⟨fun _ => ⟨cb, hno, by omega, q2⟩, fun _ => by decide⟩
        · rw [if_neg (fun q => q2 ((nI_leI (by omega) (by omega)).mp q))]
          exact ⟨fun q => absurd rfl q, fun q => absurd q.2.2.2 q2⟩
    by_cases k2 : ki t = 2
    · rw [if_pos k2]
      by_cases k3 : bo c = 1
      · rw [if_pos k3]
        exact ⟨fun q => absurd rfl q, fun q => absurd ⟨k2, k3⟩ q.2.1⟩
      · rw [if_neg k3]; exact fin (fun q => k3 q.2)
    · rw [if_neg k2]; exact fin (fun q => k2 q.1)
theorem pcP_if {nt nc np : Nat} {w h g Ho Li Be : Nat → Nat} {be ow li ho bo ki he wi ht pl : Nat → Int32} {z : Int32} (hD : pOK9 nt nc np w h g Ho Li Be be ow li ho bo ki he wi ht) {t p : Nat} (ht9 : t < nt) (hp : p < np) : ¬ pcP nt nc be ow li ho bo ki he wi ht z pl t p = 0 ↔ (∃ c : Nat, c < nc ∧ bt z c = true ∧ ow c = nI p) ∧ sN g pl (nI (10 + p)) nt + g t ≤ Be p := by
  obtain ⟨d1, d2, d3, d4, d5, d6, d7, d8, d9⟩ := hD
  have e10 : (10 : Int32) + nI p = nI (10 + p) := by rw [show (10 : Int32) = nI 10 from rfl, nI_add]
  have s3 : s_X13_sumAt nt ki he wi ht pl (nI (10 + p)) 3 = nI (sN g pl (nI (10 + p)) nt) := sN_3 (fun t h => (d6 t h).1) d7
  have b3 := sN_b (w := g) (pl := pl) (p := nI (10 + p)) (fun t h => (d6 t h).2) nt (Nat.le_refl _)
  obtain ⟨g1, g2⟩ := d6 t ht9
  obtain ⟨e1, e2⟩ := d9 p hp
  have ow9 := ow_if d2 (ow := ow) (x := nI p) (z := z) nc 0 (Nat.zero_add _)
  unfold pcP s_X13_ownsOne
  rw [e10, s3, g1, e1, nI_add]
  by_cases c0 : s_X13_ownsOne_2 ow (nI p) z nc 0 = 0
  · rw [if_pos c0]
    exact ⟨fun q => absurd rfl q, fun ⟨⟨i, a, b⟩, _⟩ => absurd c0 (ow9.mpr ⟨i, Nat.zero_le _, a, b⟩)⟩
  · rw [if_neg c0]
    obtain ⟨i, -, a, b⟩ := ow9.mp c0
    by_cases q2 : sN g pl (nI (10 + p)) nt + g t ≤ Be p
    · rw [if_pos ((nI_leI (by omega) (by omega)).mpr q2)]
      exact ⟨fun _ => ⟨⟨i, a, b⟩, q2⟩, fun _ => by decide⟩
    · rw [if_neg (fun q => q2 ((nI_leI (by omega) (by omega)).mp q))]
      exact ⟨fun q => absurd rfl q, fun q => absurd q.2 q2⟩
theorem put_s {nt nc np : Nat} {w h g Ho Li Be : Nat → Nat} {be ow li ho bo ki he wi ht : Nat → Int32} {y z : Int32} (hD : pOK9 nt nc np w h g Ho Li Be be ow li ho bo ki he wi ht) : ∀ (r t : Nat), t + r = nt → ∀ pl : Nat → Int32, (∀ u : Nat, t ≤ u → u < nt → bt y u = true → pl u = -1) → (¬ cpS (pcC nt nc be ow li ho bo ki he wi ht z) (pcP nt nc be ow li ho bo ki he wi ht z) ki y nc np r t pl = 0 ↔ ∃ P : Nat → Int32, gdP nt nc np w h g Ho Li Be ki bo ow y z t pl P)
  | 0, t, hr, pl, hpl => by
    rw [cpS]
    refine ⟨fun _ => ⟨pl, fun u _ _ => rfl, fun u h1 h2 _ => absurd h1 (by omega), fun c _ ⟨u, h1, h2, _⟩ => absurd h1 (by omega), fun p _ ⟨u, h1, h2, _⟩ => absurd h1 (by omega)⟩, fun _ => by show ¬ (1 : Int32) = 0; decide⟩
  | r + 1, t, hr, pl, hpl => by
    have ih := put_s (y := y) (z := z) hD r (t + 1) (by omega)
    obtain ⟨d1, d2, d3, d4, d5, d6, d7, d8, d9⟩ := id hD
    rw [cpS]
    unfold cpN
    by_cases c0 : (y >>> (nI t &&& 31)) &&& 1 = 0
    · have y0 := (bt_tst (by omega)).mp c0
      rw [if_pos c0, ih pl (fun u h1 h2 h3 => hpl u (by omega) h2 h3)]
      have ne : ∀ u : Nat, t ≤ u → bt y u = true → t + 1 ≤ u := fun u h1 h2 => by
        have : u ≠ t := fun e => by rw [e, y0] at h2; exact absurd h2 (by decide)
        omega
      constructor
      · rintro ⟨P, g1, g2, g3, g4⟩
        exact ⟨P, fun u h1 h2 => g1 u h1 (h2.imp id (fun q => by omega)), fun u h1 h2 h3 => g2 u (ne u h1 h3) h2 h3, fun c hc ⟨u, h1, h2, h3, h4⟩ => g3 c hc ⟨u, ne u h1 h3, h2, h3, h4⟩, fun c hc ⟨u, h1, h2, h3, h4⟩ => g4 c hc ⟨u, ne u h1 h3, h2, h3, h4⟩⟩
      · rintro ⟨P, g1, g2, g3, g4⟩
        refine ⟨P, fun u h1 h2 => ?_, fun u h1 h2 h3 => g2 u (by omega) h2 h3, fun c hc ⟨u, h1, h2, h3, h4⟩ => g3 c hc ⟨u, by omega, h2, h3, h4⟩, fun c hc ⟨u, h1, h2, h3, h4⟩ => g4 c hc ⟨u, by omega, h2, h3, h4⟩⟩
        by_cases e : u = t
        · subst e; exact g1 u h1 (Or.inl y0)
        · exact g1 u h1 (h2.imp id (fun q => by omega))
    · have y1 : bt y t = true := by cases q : bt y t with
        | true => rfl
        | false => exact absurd ((bt_tst (by omega)).mpr q) c0
      have pt : pl t = -1 := hpl t (Nat.le_refl _) (by omega) y1
      rw [if_neg c0]
      have ihv : ∀ v : Int32, (¬ cpS (pcC nt nc be ow li ho bo ki he wi ht z) (pcP nt nc be ow li ho bo ki he wi ht z) ki y nc np r (t + 1) (upd pl t v) = 0 ↔ ∃ P : Nat → Int32, gdP nt nc np w h g Ho Li Be ki bo ow y z (t + 1) (upd pl t v) P) := fun v => ih (upd pl t v) (fun u h1 h2 h3 => by rw [pk_un (by omega)]; exact hpl u (by omega) h2 h3)
      -- what the first step tells
      have fw1 : ∀ v : Int32, ∀ P : Nat → Int32, gdP nt nc np w h g Ho Li Be ki bo ow y z (t + 1) (upd pl t v) P → P t = v ∧ ∀ u : Nat, u < nt → (bt y u = false ∨ u < t) → P u = pl u := fun v P hP => by
        obtain ⟨g1, -⟩ := hP
        refine ⟨by rw [g1 t (by omega) (Or.inr (by omega)), pk_us], fun u h1 h2 => ?_⟩
        have : u ≠ t := fun e => by
          subst e
          rcases h2 with h2 | h2
          · rw [y1] at h2; exact absurd h2 (by decide)
          · omega
        rw [g1 u h1 (h2.imp id (fun q => by omega)), pk_un this]
      have C1 : (¬ anyN (fun c => if pcC nt nc be ow li ho bo ki he wi ht z pl t c = 0 then 0 else cpS (pcC nt nc be ow li ho bo ki he wi ht z) (pcP nt nc be ow li ho bo ki he wi ht z) ki y nc np r (t + 1) (upd pl t (nI c))) nc 0 = 0) ↔ ∃ c : Nat, c < nc ∧ (bt z c = true ∧ ¬ (ki t = 2 ∧ bo c = 1) ∧ sN w pl (nI c) nt + w t ≤ Ho c ∧ sN h pl (nI c) nt + h t ≤ Li c) ∧ ∃ P : Nat → Int32, gdP nt nc np w h g Ho Li Be ki bo ow y z (t + 1) (upd pl t (nI c)) P := by
        rw [any_if]
        constructor
        · rintro ⟨c, -, a, b⟩
          have hc : c < nc := by omega
          have b2 : ¬ pcC nt nc be ow li ho bo ki he wi ht z pl t c = 0 := fun q => b (if_pos q)
          have b3 : ¬ cpS (pcC nt nc be ow li ho bo ki he wi ht z) (pcP nt nc be ow li ho bo ki he wi ht z) ki y nc np r (t + 1) (upd pl t (nI c)) = 0 := fun q => b (by show (if _ then _ else _) = _; rw [if_neg b2]; exact q)
          exact ⟨c, hc, (pcC_if hD (by omega) hc).mp b2, (ihv _).mp b3⟩
        · rintro ⟨c, hc, a, b⟩
          refine ⟨c, Nat.zero_le _, by omega, ?_⟩
          show ¬ (if _ then _ else _) = _
          rw [if_neg ((pcC_if hD (by omega) hc).mpr a)]
          exact (ihv _).mpr b
      have C2 : (¬ anyN (fun p => if pcP nt nc be ow li ho bo ki he wi ht z pl t p = 0 then 0 else cpS (pcC nt nc be ow li ho bo ki he wi ht z) (pcP nt nc be ow li ho bo ki he wi ht z) ki y nc np r (t + 1) (upd pl t (10 + nI p))) np 0 = 0) ↔ ∃ p : Nat, p < np ∧ ((∃ c : Nat, c < nc ∧ bt z c = true ∧ ow c = nI p) ∧ sN g pl (nI (10 + p)) nt + g t ≤ Be p) ∧ ∃ P : Nat → Int32, gdP nt nc np w h g Ho Li Be ki bo ow y z (t + 1) (upd pl t (nI (10 + p))) P := by
        have e10 : ∀ p : Nat, (10 : Int32) + nI p = nI (10 + p) := fun p => by rw [show (10 : Int32) = nI 10 from rfl, nI_add]
        rw [any_if]
        constructor
        · rintro ⟨c, -, a, b⟩
          have hc : c < np := by omega
          have b2 : ¬ pcP nt nc be ow li ho bo ki he wi ht z pl t c = 0 := fun q => b (if_pos q)
          have b3 : ¬ cpS (pcC nt nc be ow li ho bo ki he wi ht z) (pcP nt nc be ow li ho bo ki he wi ht z) ki y nc np r (t + 1) (upd pl t (10 + nI c)) = 0 := fun q => b (by show (if _ then _ else _) = _; rw [if_neg b2]; exact q)
          rw [e10] at b3
          exact ⟨c, hc, (pcP_if hD (by omega) hc).mp b2, (ihv _).mp b3⟩
        · rintro ⟨c, hc, a, b⟩
          refine ⟨c, Nat.zero_le _, by omega, ?_⟩
          show ¬ (if _ then _ else _) = _
          rw [if_neg ((pcP_if hD (by omega) hc).mpr a), e10]
          exact (ihv _).mpr b
      -- forth and back
      have ne10 : ∀ c p : Nat, c < nc → p < np → ¬ nI c = nI (10 + p) := fun c p h1 h2 e => absurd ((nI_eq (by omega) (by omega)).mp e) (by omega)
      have backC : ∀ c : Nat, c < nc → (bt z c = true ∧ ¬ (ki t = 2 ∧ bo c = 1) ∧ sN w pl (nI c) nt + w t ≤ Ho c ∧ sN h pl (nI c) nt + h t ≤ Li c) → ∀ P : Nat → Int32, gdP nt nc np w h g Ho Li Be ki bo ow y z (t + 1) (upd pl t (nI c)) P → gdP nt nc np w h g Ho Li Be ki bo ow y z t pl P := fun c hc ⟨a1, a2, a3, a4⟩ P hP => by
        obtain ⟨f1, f2⟩ := fw1 _ P hP
        obtain ⟨g1, g2, g3, g4⟩ := hP
        refine ⟨f2, fun u h1 h2 h3 => ?_, fun d hd ⟨u, h1, h2, h3, h4⟩ => ?_, fun p hp ⟨u, h1, h2, h3, h4⟩ => ?_⟩
        · by_cases e : u = t
          · subst e; exact Or.inl ⟨c, hc, f1, a1, a2⟩
          · exact g2 u (by omega) h2 h3
        · by_cases ex : ∃ u : Nat, t + 1 ≤ u ∧ u < nt ∧ bt y u = true ∧ P u = nI d
          · exact g3 d hd ex
          · have eu : u = t := Classical.byContradiction fun q => ex ⟨u, by omega, h2, h3, h4⟩
            subst eu
            have ed : c = d := (nI_eq (by omega) (by omega)).mp (f1.symm.trans h4)
            subst ed
            have hh : ∀ v : Nat, v < nt → v ≠ u → P v = nI c → pl v = nI c := fun v v1 v2 v3 => by
              by_cases q : bt y v = false ∨ v < u
              · rw [← f2 v v1 q]; exact v3
              · refine absurd ⟨v, ?_, v1, ?_, v3⟩ ex
                · have : ¬ v < u := fun z => q (Or.inr z)
                  omega
                · cases z : bt y v with
                  | true => rfl
                  | false => exact absurd (Or.inl z) q
            have l1 := sN_hi (w := w) hh nt (Nat.le_refl _)
            have l2 := sN_hi (w := h) hh nt (Nat.le_refl _)
            rw [if_pos h2] at l1 l2
            exact ⟨by omega, by omega⟩
        · have eu : u ≠ t := fun e => by subst e; exact ne10 c p hc hp (f1.symm.trans h4)
          exact g4 p hp ⟨u, by omega, h2, h3, h4⟩
      have backP : ki t = 1 → ∀ p : Nat, p < np → ((∃ c : Nat, c < nc ∧ bt z c = true ∧ ow c = nI p) ∧ sN g pl (nI (10 + p)) nt + g t ≤ Be p) → ∀ P : Nat → Int32, gdP nt nc np w h g Ho Li Be ki bo ow y z (t + 1) (upd pl t (nI (10 + p))) P → gdP nt nc np w h g Ho Li Be ki bo ow y z t pl P := fun k1 p hp ⟨a1, a2⟩ P hP => by
        obtain ⟨f1, f2⟩ := fw1 _ P hP
        obtain ⟨g1, g2, g3, g4⟩ := hP
        refine ⟨f2, fun u h1 h2 h3 => ?_, fun d hd ⟨u, h1, h2, h3, h4⟩ => ?_, fun d hd ⟨u, h1, h2, h3, h4⟩ => ?_⟩
        · by_cases e : u = t
          · subst e; exact Or.inr ⟨k1, p, hp, f1, a1⟩
          · exact g2 u (by omega) h2 h3
        · have eu : u ≠ t := fun e => by subst e; exact ne10 d p hd hp (h4.symm.trans f1)
          exact g3 d hd ⟨u, by omega, h2, h3, h4⟩
        · by_cases ex : ∃ u : Nat, t + 1 ≤ u ∧ u < nt ∧ bt y u = true ∧ P u = nI (10 + d)
          · exact g4 d hd ex
          · have eu : u = t := Classical.byContradiction fun q => ex ⟨u, by omega, h2, h3, h4⟩
            subst eu
            have ed : p = d := by have := (nI_eq (by omega) (by omega)).mp (f1.symm.trans h4); omega
            subst ed
            have hh : ∀ v : Nat, v < nt → v ≠ u → P v = nI (10 + p) → pl v = nI (10 + p) := fun v v1 v2 v3 => by
              by_cases q : bt y v = false ∨ v < u
              · rw [← f2 v v1 q]; exact v3
              · refine absurd ⟨v, ?_, v1, ?_, v3⟩ ex
                · have : ¬ v < u := fun z => q (Or.inr z)
                  omega
                · cases z : bt y v with
                  | true => rfl
                  | false => exact absurd (Or.inl z) q
            have l1 := sN_hi (w := g) hh nt (Nat.le_refl _)
            rw [if_pos h2] at l1
            omega
      have lo9 : ∀ (P : Nat → Int32) (k : Nat), k < 100 → (∀ u : Nat, u < nt → (bt y u = false ∨ u < t) → P u = pl u) → ∀ u : Nat, u < nt → pl u = nI k → P u = nI k := fun P k hk f2 u h1 h2 => by
        by_cases q : bt y u = false ∨ u < t
        · rw [f2 u h1 q]; exact h2
        · have := hpl u (Nat.le_of_not_lt (fun z => q (Or.inr z))) h1 (by
            cases z : bt y u with
            | true => rfl
            | false => exact absurd (Or.inl z) q)
          rw [this] at h2
          exact absurd h2.symm (nI_n1 (by omega))
      have forth : ∀ P : Nat → Int32, gdP nt nc np w h g Ho Li Be ki bo ow y z t pl P → (∃ c : Nat, c < nc ∧ (bt z c = true ∧ ¬ (ki t = 2 ∧ bo c = 1) ∧ sN w pl (nI c) nt + w t ≤ Ho c ∧ sN h pl (nI c) nt + h t ≤ Li c) ∧ ∃ P : Nat → Int32, gdP nt nc np w h g Ho Li Be ki bo ow y z (t + 1) (upd pl t (nI c)) P) ∨ (ki t = 1 ∧ ∃ p : Nat, p < np ∧ ((∃ c : Nat, c < nc ∧ bt z c = true ∧ ow c = nI p) ∧ sN g pl (nI (10 + p)) nt + g t ≤ Be p) ∧ ∃ P : Nat → Int32, gdP nt nc np w h g Ho Li Be ki bo ow y z (t + 1) (upd pl t (nI (10 + p))) P) := fun P ⟨g1, g2, g3, g4⟩ => by
        have on : ∀ v : Int32, P t = v → gdP nt nc np w h g Ho Li Be ki bo ow y z (t + 1) (upd pl t v) P := fun v hv => by
          refine ⟨fun u h1 h2 => ?_, fun u h1 h2 h3 => g2 u (by omega) h2 h3, fun c hc ⟨u, h1, h2, h3, h4⟩ => g3 c hc ⟨u, by omega, h2, h3, h4⟩, fun c hc ⟨u, h1, h2, h3, h4⟩ => g4 c hc ⟨u, by omega, h2, h3, h4⟩⟩
          by_cases e : u = t
          · subst e; rw [pk_us]; exact hv
          · rw [pk_un e]; exact g1 u h1 (h2.imp id (fun q => by omega))
        rcases g2 t (Nat.le_refl _) (by omega) y1 with ⟨c, hc, a1, a2, a3⟩ | ⟨k1, p, hp, a1, a2⟩
        · obtain ⟨s1, s2⟩ := g3 c hc ⟨t, Nat.le_refl _, by omega, y1, a1⟩
          have hl := lo9 P c (by omega) g1
          have pn : ¬ pl t = nI c := fun q => nI_n1 (by omega) (q.symm.trans pt)
          have l1 := sN_lo (w := w) hl pn a1 nt (Nat.le_refl _)
          have l2 := sN_lo (w := h) hl pn a1 nt (Nat.le_refl _)
          rw [if_pos (by omega)] at l1 l2
          exact Or.inl ⟨c, hc, ⟨a2, a3, by omega, by omega⟩, P, on _ a1⟩
        · have s1 := g4 p hp ⟨t, Nat.le_refl _, by omega, y1, a1⟩
          have hl := lo9 P (10 + p) (by omega) g1
          have pn : ¬ pl t = nI (10 + p) := fun q => nI_n1 (by omega) (q.symm.trans pt)
          have l1 := sN_lo (w := g) hl pn a1 nt (Nat.le_refl _)
          rw [if_pos (by omega)] at l1
          exact Or.inr ⟨k1, p, hp, ⟨a2, by omega⟩, P, on _ a1⟩
      by_cases c1 : anyN (fun c => if pcC nt nc be ow li ho bo ki he wi ht z pl t c = 0 then 0 else cpS (pcC nt nc be ow li ho bo ki he wi ht z) (pcP nt nc be ow li ho bo ki he wi ht z) ki y nc np r (t + 1) (upd pl t (nI c))) nc 0 = 0
      · rw [if_pos c1]
        have n1 := fun q => (C1.mpr q) c1
        by_cases k1 : ki t = 1
        · rw [if_pos k1, C2]
          constructor
          · rintro ⟨p, hp, a, P, hP⟩; exact ⟨P, backP k1 p hp a P hP⟩
          · rintro ⟨P, hP⟩
            rcases forth P hP with q | ⟨-, q⟩
            · exact absurd q n1
            · exact q
        · rw [if_neg k1]
          refine ⟨fun q => absurd rfl q, ?_⟩
          rintro ⟨P, hP⟩
          rcases forth P hP with q | ⟨q, -⟩
          · exact absurd q n1
          · exact absurd q k1
      · rw [if_neg c1]
        obtain ⟨c, hc, a, P, hP⟩ := C1.mp c1
        exact ⟨fun _ => ⟨P, backC c hc a P hP⟩, fun _ => by decide⟩
end
