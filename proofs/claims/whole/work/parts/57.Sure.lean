/-! PoundsOverModel: how likely it goes; what to weigh *-/
noncomputable section
def lB (B : Nat) (v : Int64) : Prop := ∃ m : Nat, m ≤ B ∧ v = lN m
theorem lB_self {B : Nat} {v : Int64} (h : lB B v) (hB : B < 2 ^ 62) : v = lN v.toInt.toNat ∧ v.toInt.toNat < 2 ^ 62 := by
  obtain ⟨m, hm, rfl⟩ := h
  rw [lNt (by omega), Int.toNat_natCast]
  exact ⟨rfl, by omega⟩
theorem lB_add {A B : Nat} {u v : Int64} (h : lB A u) (g : lB B v) : lB (A + B) (u + v) := by
  obtain ⟨a, ha, rfl⟩ := h
  obtain ⟨b, hb, rfl⟩ := g
  exact ⟨a + b, by omega, lN_add a b⟩
theorem lB_mono {A B : Nat} {u : Int64} (h : lB A u) (g : A ≤ B) : lB B u := by
  obtain ⟨a, ha, e⟩ := h
  exact ⟨a, Nat.le_trans ha g, e⟩
theorem isN_lB {f : Nat → Int64} {k i0 n B : Nat} (h : ∀ q : Nat, q < n → lB B (f q)) : ∀ t : Nat, (∀ j : Nat, j < t → k - (i0 + j) < n) → lB (t * B) (isN f k i0 t)
  | 0, _ => ⟨0, Nat.zero_le _, rfl⟩
  | t + 1, hj => by
    rw [isN, Nat.succ_mul]
    exact lB_add (isN_lB h t (fun j q => hj j (by omega))) (h _ (hj t (by omega)))
theorem isV_lB {f : Nat → Int64} {k more n B : Nat} (h : ∀ q : Nat, q < n → lB B (f q)) (hn : 1 ≤ n) (hm : more ≤ 19) : lB (19 * B) (isV n more f k) := by
  unfold isV
  refine lB_mono (isN_lB h _ (fun j hj => ?_)) (Nat.mul_le_mul_right B ?_)
  · omega
  · omega
theorem nxS_at {n more : Nat} {f g : Nat → Int64} : ∀ K q : Nat, q < K → nxS n more f g K q = isV n more f q
  | 0, _, h => absurd h (Nat.not_lt_zero _)
  | K + 1, q, h => by
    rw [nxS]
    unfold vp_updL
    by_cases e : q = K
    · rw [if_pos e, e]
    · rw [if_neg e]; exact nxS_at K q (by omega)
theorem rxS_lB {pl : Nat → Int32} {x : Int32} {uN : Nat → Nat} {f g : Nat → Int64} {nt : Nat} (hu : ∀ t : Nat, t < nt → uN t ≤ 9) : ∀ t : Nat, t ≤ nt → ∀ q : Nat, q < nWS pl x uN t → lB (19 ^ t) ((rxS pl x uN f g t).1 q)
  | 0, _, q, hq => by
    rw [nWS] at hq
    have : q = 0 := by omega
    subst this
    exact ⟨1, Nat.le_refl _, (show vp_updL f 0 1 0 = lN 1 from if_pos rfl)⟩
  | t + 1, ht, q, hq => by
    have ih := rxS_lB (pl := pl) (x := x) (f := f) (g := g) hu t (by omega)
    have h1 := hu t (by omega)
    have hn := nWS_b (pl := pl) (x := x) hu t (by omega)
    rw [nWS] at hq
    rw [rxS]
    by_cases c : pl t = x
    · rw [if_pos c] at hq ⊢
      have e : cpL (nWS pl x uN t + 2 * uN t) (rxS pl x uN f g t).1 (nxS (nWS pl x uN t) (2 * uN t + 1) (rxS pl x uN f g t).1 (rxS pl x uN f g t).2 (nWS pl x uN t + 2 * uN t)) q = isV (nWS pl x uN t) (2 * uN t + 1) (rxS pl x uN f g t).1 q := by
        unfold cpL
        rw [if_pos hq]
        exact nxS_at _ q hq
      show lB _ (cpL (nWS pl x uN t + 2 * uN t) (rxS pl x uN f g t).1 (nxS (nWS pl x uN t) (2 * uN t + 1) (rxS pl x uN f g t).1 (rxS pl x uN f g t).2 (nWS pl x uN t + 2 * uN t)) q)
      rw [e, Nat.pow_succ, Nat.mul_comm]
      exact isV_lB ih hn.1 (by omega)
    · rw [if_neg c] at hq ⊢
      exact lB_mono (ih q hq) (Nat.pow_le_pow_right (by decide) (Nat.le_succ t))
theorem gw_lB {f : Nat → Int64} {li le : Int32} {B : Nat} : ∀ (r k A : Nat) (a : Int64), lB A a → (∀ q : Nat, q < k + r → lB B (f q)) → lB (A + r * B) (gwS2 li le f r k a)
  | 0, k, A, a, ha, _ => by rw [gwS2]; exact lB_mono ha (by omega)
  | r + 1, k, A, a, ha, h => by
    rw [gwS2]
    split
    · exact lB_mono ha (Nat.le_add_right _ _)
    · have := gw_lB (li := li) (le := le) (B := B) r (k + 1) (A + B) (a + f k) (lB_add ha (h k (by omega))) (fun q hq => h q (by omega))
      rw [Nat.succ_mul]
      exact lB_mono this (by omega)
theorem wWS_lB {pl : Nat → Int32} {x : Int32} {uN : Nat → Nat} {nt : Nat} (hu : ∀ t : Nat, t < nt → uN t ≤ 9) : ∀ t : Nat, t ≤ nt → ∃ m : Nat, 1 ≤ m ∧ m ≤ 19 ^ t ∧ wWS pl x uN t = lN m
  | 0, _ => ⟨1, Nat.le_refl _, Nat.le_refl _, rfl⟩
  | t + 1, ht => by
    obtain ⟨m, h1, h2, h3⟩ := wWS_lB (pl := pl) (x := x) hu t (by omega)
    have hx := hu t (by omega)
    rw [wWS]
    split
    · refine ⟨m * (2 * uN t + 1), Nat.mul_pos h1 (by omega), ?_, by rw [h3, nI_l (by omega), lN_mul]⟩
      rw [Nat.pow_succ]
      exact Nat.mul_le_mul h2 (by omega)
    · exact ⟨m, h1, Nat.le_trans h2 (Nat.pow_le_pow_right (by decide) (Nat.le_succ t)), h3⟩
theorem p19 {nt : Nat} (h : nt ≤ 12) : 19 ^ nt ≤ 2213314919066161 := Nat.le_trans (Nat.pow_le_pow_right (by decide) h) (by decide)
theorem sur_a {pl : Nat → Int32} {x : Int32} {uN : Nat → Nat} {nt : Nat} (hu : ∀ t : Nat, t < nt → uN t ≤ 9) (hnt : nt ≤ 12) : wWS pl x uN nt = lN (wWS pl x uN nt).toInt.toNat ∧ (wWS pl x uN nt).toInt.toNat < 2 ^ 62 ∧ 0 < (wWS pl x uN nt).toInt.toNat := by
  obtain ⟨m, h1, h2, h3⟩ := wWS_lB (pl := pl) (x := x) hu nt (Nat.le_refl _)
  have := p19 hnt
  rw [h3, lNt (by omega), Int.toNat_natCast]
  exact ⟨rfl, by omega, by omega⟩
theorem sur_g {pl : Nat → Int32} {x li le : Int32} {uN : Nat → Nat} {f g : Nat → Int64} {nt : Nat} (hu : ∀ t : Nat, t < nt → uN t ≤ 9) (hnt : nt ≤ 12) : gwS2 li le (rxS pl x uN f g nt).1 (nWS pl x uN nt) 0 0 = lN (gwS2 li le (rxS pl x uN f g nt).1 (nWS pl x uN nt) 0 0).toInt.toNat ∧ (gwS2 li le (rxS pl x uN f g nt).1 (nWS pl x uN nt) 0 0).toInt.toNat < 2 ^ 62 := by
  have h := gw_lB (li := li) (le := le) (nWS pl x uN nt) 0 0 0 ⟨0, Nat.le_refl _, rfl⟩ (fun q hq => rxS_lB (pl := pl) (x := x) (f := f) (g := g) hu nt (Nat.le_refl _) q (by omega))
  have hn := nWS_b (pl := pl) (x := x) hu nt (Nat.le_refl _)
  have hp := p19 hnt
  have : nWS pl x uN nt * 19 ^ nt ≤ 217 * 2213314919066161 := Nat.mul_le_mul (by omega) hp
  exact lB_self h (by omega)
theorem gcd_nz {a b : Nat} (h0 : 0 < a) (h : a < 2 ^ 62) : ¬ lN (Nat.gcd a b) = 0 := by
  have h1 := Nat.gcd_pos_of_pos_left b h0
  have h2 := Nat.gcd_le_left b h0
  exact fun q => by have := (lN_z (by omega)).mp q; omega
theorem kbS_b {li ot off : Int32} {lo : Nat} : ∀ t : Nat, ∃ m : Nat, m ≤ t ∧ kbS li ot off lo t = nI m
  | 0 => ⟨0, Nat.le_refl _, rfl⟩
  | t + 1 => by
    obtain ⟨m, h1, h2⟩ := kbS_b (li := li) (ot := ot) (off := off) (lo := lo) t
    rw [kbS, h2]
    (repeat' split) <;> first | exact ⟨m + 1, by omega, nI_1 m⟩ | exact ⟨m, by omega, rfl⟩
def kbT (li ot off : Int32) (hN uN : Nat → Nat) (t : Nat) : Int32 := kbS li (ot - nI (hN t)) (off - nI (uN t)) (hN t - uN t) (uN t + uN t + 1)
theorem kbT_n {li ot off : Int32} {hN uN : Nat → Nat} {t : Nat} (h : uN t ≤ 9) : kbT li ot off hN uN t = nI (kbT li ot off hN uN t).toNatClampNeg ∧ (kbT li ot off hN uN t).toNatClampNeg ≤ 19 := by
  obtain ⟨m, h1, h2⟩ := kbS_b (li := li) (ot := ot - nI (hN t)) (off := off - nI (uN t)) (lo := hN t - uN t) (uN t + uN t + 1)
  unfold kbT
  rw [h2, nI_clamp (by omega)]
  exact ⟨rfl, by omega⟩
def wbS (kb uF pl : Nat → Int32) (x : Int32) : Nat → Int32
  | 0 => -1
  | t + 1 => if pl t = x then (if wbS kb uF pl x t = -1 then nI t else if kb t * (2 * uF (wbS kb uF pl x t).toNatClampNeg + 1) ≤ kb (wbS kb uF pl x t).toNatClampNeg * (2 * uF t + 1) then wbS kb uF pl x t else nI t) else wbS kb uF pl x t
theorem wbS_b {kb uF pl : Nat → Int32} {x : Int32} : ∀ t : Nat, wbS kb uF pl x t = -1 ∨ ∃ b : Nat, b < t ∧ wbS kb uF pl x t = nI b ∧ pl b = x
  | 0 => Or.inl rfl
  | t + 1 => by
    have ih := wbS_b (kb := kb) (uF := uF) (pl := pl) (x := x) t
    have up : (wbS kb uF pl x t = -1 ∨ ∃ b : Nat, b < t ∧ wbS kb uF pl x t = nI b ∧ pl b = x) → (wbS kb uF pl x t = -1 ∨ ∃ b : Nat, b < t + 1 ∧ wbS kb uF pl x t = nI b ∧ pl b = x) := fun h => h.imp id (fun ⟨b, h1, h2⟩ => ⟨b, by omega, h2⟩)
    rw [wbS]
    by_cases c : pl t = x
    · rw [if_pos c]
      split
      · exact Or.inr ⟨t, by omega, rfl, c⟩
      · split
        · exact up ih
        · exact Or.inr ⟨t, by omega, rfl, c⟩
    · rw [if_neg c]; exact up ih
def wgS (kb uF : Nat → Int32) (wb y : Int32) : Int32 := if wb = -1 then (if y = 0 then -1 else y - 1) else if y = 0 then wb else if y = 1 then kb wb.toNatClampNeg / (lN (Nat.gcd (2 * uF wb.toNatClampNeg + 1).toNatClampNeg (kb wb.toNatClampNeg).toNatClampNeg)).toInt32 else (2 * uF wb.toNatClampNeg + 1) / (lN (Nat.gcd (2 * uF wb.toNatClampNeg + 1).toNatClampNeg (kb wb.toNatClampNeg).toNatClampNeg)).toInt32
theorem lnI {v : Int32} {m : Nat} (h : v = nI v.toNatClampNeg) (hm : v.toNatClampNeg ≤ m) (h9 : m < 2 ^ 31) : v.toInt64 = lN v.toNatClampNeg := by
  conv => lhs; rw [h]
  exact nI_l (by omega)
theorem low_n {v : Int32} {u : Nat} (h : v = nI u) (hu : u ≤ 9) : 2 * v + 1 = nI (2 * v + 1).toNatClampNeg ∧ (2 * v + 1).toNatClampNeg ≤ 19 ∧ 0 < (2 * v + 1).toNatClampNeg := by
  have e : 2 * v + 1 = nI (2 * u + 1) := by rw [h, show (2 : Int32) = nI 2 from rfl, pk_mul, nI_1]
  rw [e, nI_clamp (by omega)]
  exact ⟨rfl, by omega, by omega⟩
theorem gcd_nzI {a b : Nat} (h0 : 0 < a) (h : a ≤ 19) : ¬ (lN (Nat.gcd a b)).toInt32 = 0 := by
  have h1 := Nat.gcd_pos_of_pos_left b h0
  have h2 := Nat.gcd_le_left b h0
  rw [lN_i]
  exact nI_ne0 h1 (by omega)
theorem c_X13_commonL (l : Launch) (D : va_G) (cB cI cJ : ClassId) (ad : Nat → Nat) (n : Nat) (M : Nat → va_E) (a b : Nat) (A B : Int64)   (ha : a < 2 ^ 62) (hb2 : b < 2 ^ 62) (hA : A = lN a) (hB : B = lN b) : cRl l D cB cI cJ ad n M yX13_common wsX13_common 0 0 [.long A, .long B] (lN (Nat.gcd a b)) := by
  subst hA hB
  exact c_X13_common l D cB cI cJ ad n M a b ha hb2
theorem c_X13_knownByN (l : Launch) (D : va_G) (cB cI cJ : ClassId) (ad : Nat → Nat) (n : Nat) (M : Nat → va_E) (mb : Nat) (nt : Nat) (nc : Nat) (np : Nat) (nq : Nat) (mv : Nat → Int32) (toldF : Nat → Int32) (limitF : Nat → Int32) (kindF : Nat → Int32) (heavyF : Nat → Int32) (unsureF : Nat → Int32) (wideF : Nat → Int32) (hotF : Nat → Int32) (placeF : Nat → Int32) (hN uN : Nat → Nat) (t : Nat) (x : Int32) (h_mb : mb < n) (h_mb_3 : mb + 3 < n) (h_mb_8 : mb + 8 < n) (h_mb_12 : mb + 12 < n) (h_mb_13 : mb + 13 < n) (h_mb_14 : mb + 14 < n) (h_mb_15 : mb + 15 < n) (h_mb_17 : mb + 17 < n) (h_mb_18 : mb + 18 < n) (m_mb : M mb = .inr (12, modF ad mb mv)) (m_mb_3 : M (mb + 3) = .inl (cI, 14, .inl toldF)) (m_mb_8 : M (mb + 8) = .inl (cI, 10, .inl limitF)) (m_mb_12 : M (mb + 12) = .inl (cI, 24, .inl kindF)) (m_mb_13 : M (mb + 13) = .inl (cI, 24, .inl heavyF)) (m_mb_14 : M (mb + 14) = .inl (cI, 24, .inl unsureF)) (m_mb_15 : M (mb + 15) = .inl (cI, 24, .inl wideF)) (m_mb_17 : M (mb + 17) = .inl (cI, 24, .inl hotF)) (m_mb_18 : M (mb + 18) = .inl (cI, 24, .inl placeF)) (k0 : toldF 0 = nI np) (hnp : np ≤ 4) (k1 : toldF 1 = nI nc) (hnc : nc ≤ 5) (k2 : toldF 2 = nI nt) (hnt : nt ≤ 12) (k3 : toldF 3 = nI nq) (hnq : nq ≤ 6) (ht9 : t < nt) (hp9 : placeF t = x) (vx : vp_in x 10) (hu : ∀ t : Nat, t < nt → unsureF t = nI (uN t) ∧ uN t ≤ 9) (hwu : ∀ t : Nat, t < nt → heavyF t = nI (hN t) ∧ uN t ≤ hN t ∧ hN t ≤ 60) : cR l D cB cI cJ ad n M yX13_knownBy wsX13_knownBy 1 25 [.ref (ad mb), .int (nI t)] ((kbT (limitF x.toNatClampNeg) (s_X13_sumAt nt kindF heavyF wideF hotF placeF x 1) (s_X13_unsureAt nt unsureF placeF x) hN uN) t) := by
  have e9 : (nI t).toNatClampNeg = t := nI_clamp (by omega)
  have h := c_X13_knownBy l D cB cI cJ ad n M mb nt nc np nq mv toldF limitF kindF heavyF unsureF wideF hotF placeF (hN t) (uN t) (nI t) h_mb h_mb_3 h_mb_8 h_mb_12 h_mb_13 h_mb_14 h_mb_15 h_mb_17 h_mb_18 m_mb m_mb_3 m_mb_8 m_mb_12 m_mb_13 m_mb_14 m_mb_15 m_mb_17 m_mb_18 k0 hnp k1 hnc k2 hnt k3 hnq (vp_in_nI (by omega) (by decide)) (by rw [e9, hp9]; exact vx) (by rw [e9]; exact (hwu t ht9).1) (by rw [e9]; exact (hu t ht9).1) (hwu t ht9).2.1 (hwu t ht9).2.2
  simp only [e9, hp9, (hwu t ht9).1, (hu t ht9).1] at h
  exact h
set_option maxRecDepth 20000 in
theorem fX13_sure_173 : FL wsX13_sure RX13 173 12 2 := ⟨RX13, TX13, 67, rfl, by decide +kernel, by decide, by decide +kernel⟩
theorem yd_X13_waysOf : YD yX13_waysOf 2 := ⟨by decide +kernel, by decide +kernel, by decide +kernel⟩
theorem yd_X13_common : YD yX13_common 2 := ⟨by decide +kernel, by decide +kernel, by decide +kernel⟩
theorem yd_X13_sureOf : YD yX13_sureOf 1 := ⟨by decide +kernel, by decide +kernel, by decide +kernel⟩
def s_X13_sure (nt : Nat) (toldF : Nat → Int32) (limitF : Nat → Int32) (kindF : Nat → Int32) (heavyF : Nat → Int32) (unsureF : Nat → Int32) (wideF : Nat → Int32) (hotF : Nat → Int32) (placeF : Nat → Int32) (rowsF : Nat → Int64) (rowsNextF : Nat → Int64) (uN : Nat → Nat) (x : Int32) (y : Int32) : Int64 := if (s_X13_isCase toldF x) = 0 then ((s_X13_fail).toInt64) else if (s_X13_isIn y.toInt64 0 4) = 0 then ((s_X13_fail).toInt64) else if 2 ≤ y then if y = 2 then ((s_X13_sureOf nt limitF kindF heavyF unsureF wideF hotF placeF x).toInt64) else if y = 3 then ((gwS2 (limitF x.toNatClampNeg) ((s_X13_sumAt nt kindF heavyF wideF hotF placeF x 1) - (s_X13_unsureAt nt unsureF placeF x)) (rxS placeF x uN rowsF rowsNextF nt).1 (nWS placeF x uN nt) 0 0) / (lN (Nat.gcd ((wWS placeF x uN nt).toInt.toNat) ((gwS2 (limitF x.toNatClampNeg) ((s_X13_sumAt nt kindF heavyF wideF hotF placeF x 1) - (s_X13_unsureAt nt unsureF placeF x)) (rxS placeF x uN rowsF rowsNextF nt).1 (nWS placeF x uN nt) 0 0).toInt.toNat)))) else ((wWS placeF x uN nt) / (lN (Nat.gcd ((wWS placeF x uN nt).toInt.toNat) ((gwS2 (limitF x.toNatClampNeg) ((s_X13_sumAt nt kindF heavyF wideF hotF placeF x 1) - (s_X13_unsureAt nt unsureF placeF x)) (rxS placeF x uN rowsF rowsNextF nt).1 (nWS placeF x uN nt) 0 0).toInt.toNat)))) else if y = 0 then (((s_X13_sumAt nt kindF heavyF wideF hotF placeF x 1) + (-(s_X13_unsureAt nt unsureF placeF x))).toInt64) else (((s_X13_sumAt nt kindF heavyF wideF hotF placeF x 1) + (s_X13_unsureAt nt unsureF placeF x)).toInt64)
def s_X13_sure_2_1 (mv : Nat → Int32) (toldF : Nat → Int32) (x : Int32) (y : Int32) : Nat → Int32 := if (s_X13_isCase toldF x) = 0 then (upd (upd mv 2 0) 2 1) else if (s_X13_isIn y.toInt64 0 4) = 0 then (upd (upd mv 2 0) 2 1) else if 2 ≤ y then if y = 2 then (upd mv 2 0) else if y = 3 then (upd mv 2 0) else (upd mv 2 0) else if y = 0 then (upd mv 2 0) else (upd mv 2 0)
set_option maxHeartbeats 4000000 in
set_option maxRecDepth 100000 in
theorem c_X13_sure (l : Launch) (D : va_G) (cB cI cJ : ClassId) (ad : Nat → Nat) (n : Nat) (M : Nat → va_E) (hI : ipI ad n) (mb : Nat) (nt : Nat) (nc : Nat) (np : Nat) (nq : Nat) (mv : Nat → Int32) (toldF : Nat → Int32) (limitF : Nat → Int32) (kindF : Nat → Int32) (heavyF : Nat → Int32) (unsureF : Nat → Int32) (wideF : Nat → Int32) (hotF : Nat → Int32) (placeF : Nat → Int32) (rowsF : Nat → Int64) (rowsNextF : Nat → Int64) (uN : Nat → Nat) (x : Int32) (y : Int32) (h_mb : mb < n) (h_mb_3 : mb + 3 < n) (h_mb_8 : mb + 8 < n) (h_mb_12 : mb + 12 < n) (h_mb_13 : mb + 13 < n) (h_mb_14 : mb + 14 < n) (h_mb_15 : mb + 15 < n) (h_mb_17 : mb + 17 < n) (h_mb_18 : mb + 18 < n) (h_mb_32 : mb + 32 < n) (h_mb_33 : mb + 33 < n) (m_mb : M mb = .inr (12, modF ad mb mv)) (m_mb_3 : M (mb + 3) = .inl (cI, 14, .inl toldF)) (m_mb_8 : M (mb + 8) = .inl (cI, 10, .inl limitF)) (m_mb_12 : M (mb + 12) = .inl (cI, 24, .inl kindF)) (m_mb_13 : M (mb + 13) = .inl (cI, 24, .inl heavyF)) (m_mb_14 : M (mb + 14) = .inl (cI, 24, .inl unsureF)) (m_mb_15 : M (mb + 15) = .inl (cI, 24, .inl wideF)) (m_mb_17 : M (mb + 17) = .inl (cI, 24, .inl hotF)) (m_mb_18 : M (mb + 18) = .inl (cI, 24, .inl placeF)) (m_mb_32 : M (mb + 32) = .inl (cJ, 220, .inr (.inl rowsF))) (m_mb_33 : M (mb + 33) = .inl (cJ, 220, .inr (.inl rowsNextF))) (k0 : toldF 0 = nI np) (hnp : np ≤ 4) (k1 : toldF 1 = nI nc) (hnc : nc ≤ 5) (k2 : toldF 2 = nI nt) (hnt : nt ≤ 12) (k3 : toldF 3 = nI nq) (hnq : nq ≤ 6) (hu : ∀ t : Nat, t < nt → unsureF t = nI (uN t) ∧ uN t ≤ 9) : cWl l D cB cI cJ ad n M yX13_sure wsX13_sure 2 54 [.ref (ad mb), .int x, .int y] (fun r M' => ∃ (v0__ : Nat → Int64) (v1__ : Nat → Int64), r = s_X13_sure nt toldF limitF kindF heavyF unsureF wideF hotF placeF rowsF rowsNextF uN x y ∧ M' (mb + 32) = .inl (cJ, 220, .inr (.inl v0__)) ∧ M' (mb + 33) = .inl (cJ, 220, .inr (.inl v1__)) ∧ M' mb = .inr (12, modF ad mb (s_X13_sure_2_1 mv toldF x y)) ∧ ∀ q : Nat, q ≠ mb + 32 → q ≠ mb + 33 → q ≠ mb → M' q = M q) := by
  refine q_body (cc := cX13_sure) (maxL := 7) (ret := (some .long)) (by decide) rfl (Nat.le_of_ble_eq_true rfl) ?_
  intro p e s m args below meth c ls X hr hlocks hK hP hl
  obtain ⟨hx, hb, hml, hown, hts⟩ := id X
  have hS : va_S (ipA ad n) s.heap s.heap [] := va_S.rf
  have hl : lv_has ls 7 [(0, .ref (ad mb)), (1, .int x), (2, .int y)] := hl
  refine lv_aload_n hx hb dX13_sure_0 rfl (lv_at hl 0 rfl) ?_
  refine lv_iconst (v := 0) hx hb dX13_sure_1 (by decide) ?_
  refine q_put (fs := modF ad mb mv) (fs' := modF ad mb (upd mv 2 0)) X hK hI hP hS fX13_sure_173 fw_12_2 h_mb m_mb rfl rfl (Nat.le_of_ble_eq_true rfl) rfl dX13_sure_2 (fun H locs hP hS => ?_)
  refine lv_aload_n hx hb dX13_sure_5 rfl (lv_at hl 0 rfl) ?_
  refine lv_iload_n hx hb dX13_sure_6 rfl (lv_at hl 1 rfl) ?_
  refine q_rdV (As := [.int x]) (rest := []) (c_X13_isCase l D cB cI cJ ad n (va_up M mb (.inr (12, modF ad mb (upd mv 2 0)))) mb nt nc np nq (upd mv 2 0) toldF x h_mb h_mb_3 (va_up_self M mb (.inr (12, modF ad mb (upd mv 2 0)))) ((va_up_ne M (.inr (12, modF ad mb (upd mv 2 0))) (show mb + 3 ≠ mb by omega)).trans m_mb_3) k0 hnp k1 hnc k2 hnt k3 hnq) X hK hP hS hl.1 rfl gX13_sure_X13_isCase yd_X13_isCase ⟨Nat.le_of_ble_eq_true rfl, Nat.le_of_ble_eq_true rfl⟩ h_mb (va_up_self M mb (.inr (12, modF ad mb (upd mv 2 0)))) (ci := 12) rfl rfl (Nat.le_of_ble_eq_true rfl) ⟨Nat.zero_le _, Nat.zero_le _⟩ dX13_sure_7 ?_
  refine lv_if_eq (tgt := 25) hx hb dX13_sure_10 (by decide) (fun c_10 => ?_) (fun c_10 => ?_)
  · skip
    refine lv_aload_n hx hb dX13_sure_25 rfl (lv_at hl 0 rfl) ?_
    refine lv_iconst (v := 1) hx hb dX13_sure_26 (by decide) ?_
    refine q_wrVi (As := [.int 1]) (rest := []) (c_X13_fail l D cB cI cJ ad n (va_up M mb (.inr (12, modF ad mb (upd mv 2 0)))) hI mb (upd mv 2 0) 1 h_mb (va_up_self M mb (.inr (12, modF ad mb (upd mv 2 0)))) ) X hK hP hS hl.1 rfl gX13_sure_X13_fail yd_X13_fail ⟨Nat.le_of_ble_eq_true rfl, Nat.le_of_ble_eq_true rfl⟩ h_mb (va_up_self M mb (.inr (12, modF ad mb (upd mv 2 0)))) (ci := 12) rfl rfl (Nat.le_of_ble_eq_true rfl) ⟨Nat.zero_le _, Nat.zero_le _⟩ dX13_sure_27 (fun r5 M4 H locs hp3 hP hS => ?_)
    obtain ⟨er8, g6, fr7⟩ := hp3
    replace er8 := er8.symm
    subst er8
    refine lv_i2l hx hb dX13_sure_30 rfl ?_
    exact q_wlret X hr hlocks hP hS ⟨_, _, (by rw [s_X13_sure, if_pos c_10]), ((fr7 (mb + 32) (by omega)).trans ((va_up_ne M (.inr (12, modF ad mb (upd mv 2 0))) (show mb + 32 ≠ mb by omega)).trans m_mb_32)), ((fr7 (mb + 33) (by omega)).trans ((va_up_ne M (.inr (12, modF ad mb (upd mv 2 0))) (show mb + 33 ≠ mb by omega)).trans m_mb_33)), (by rw [s_X13_sure_2_1, if_pos c_10]; exact g6), (fun q n0 n1 n2 => ((fr7 q n2).trans (va_up_ne _ _ n2)))⟩ dX13_sure_31
  · skip
    have hv_10 := isCase_vp k1 hnc c_10
    refine lv_iload_n hx hb dX13_sure_13 rfl (lv_at hl 2 rfl) ?_
    refine lv_i2l hx hb dX13_sure_14 rfl ?_
    refine lv_lconst (v := 0) hx hb dX13_sure_15 (by decide) ?_
    refine lv_ldc2 (v := 4) hx hb hown (hts _ (by decide +kernel)) dX13_sure_16 ?_
    refine q_rdS (As := [.long y.toInt64, .long 0, .long 4]) (rest := []) (c_X13_isIn l D cB cI cJ ad n (va_up M mb (.inr (12, modF ad mb (upd mv 2 0)))) y.toInt64 0 4   ) X hK hP hS hl.1 rfl gX13_sure_X13_isIn yd_X13_isIn ⟨Nat.le_of_ble_eq_true rfl, Nat.le_of_ble_eq_true rfl⟩ rfl (Nat.le_of_ble_eq_true rfl) ⟨Nat.zero_le _, Nat.zero_le _⟩ dX13_sure_19 ?_
    refine lv_if_ne (tgt := 32) hx hb dX13_sure_22 (by decide) (fun c_22 => ?_) (fun c_22 => ?_)
    · skip
      refine lv_iload_n hx hb dX13_sure_32 rfl (lv_at hl 2 rfl) ?_
      refine lv_iconst (v := 2) hx hb dX13_sure_33 (by decide) ?_
      refine lv_icmp_ge (tgt := 64) hx hb dX13_sure_34 (by decide) (fun c_34 => ?_) (fun c_34 => ?_)
      · skip
        refine lv_iload_n hx hb dX13_sure_64 rfl (lv_at hl 2 rfl) ?_
        refine lv_iconst (v := 2) hx hb dX13_sure_65 (by decide) ?_
        refine lv_icmp_ne (tgt := 76) hx hb dX13_sure_66 (by decide) (fun c_66 => ?_) (fun c_66 => ?_)
        · skip
          refine lv_aload_n hx hb dX13_sure_76 rfl (lv_at hl 0 rfl) ?_
          refine lv_iload_n hx hb dX13_sure_77 rfl (lv_at hl 1 rfl) ?_
          refine lv_iconst (v := 0) hx hb dX13_sure_78 (by decide) ?_
          refine q_wrVl (As := [.int x, .int 0]) (rest := []) (c_X13_waysOf l D cB cI cJ ad n (va_up M mb (.inr (12, modF ad mb (upd mv 2 0)))) hI mb nt nc np nq (upd mv 2 0) toldF limitF kindF heavyF unsureF wideF hotF placeF rowsF rowsNextF uN x 0 h_mb h_mb_3 h_mb_8 h_mb_12 h_mb_13 h_mb_14 h_mb_15 h_mb_17 h_mb_18 h_mb_32 h_mb_33 (va_up_self M mb (.inr (12, modF ad mb (upd mv 2 0)))) ((va_up_ne M (.inr (12, modF ad mb (upd mv 2 0))) (show mb + 3 ≠ mb by omega)).trans m_mb_3) ((va_up_ne M (.inr (12, modF ad mb (upd mv 2 0))) (show mb + 8 ≠ mb by omega)).trans m_mb_8) ((va_up_ne M (.inr (12, modF ad mb (upd mv 2 0))) (show mb + 12 ≠ mb by omega)).trans m_mb_12) ((va_up_ne M (.inr (12, modF ad mb (upd mv 2 0))) (show mb + 13 ≠ mb by omega)).trans m_mb_13) ((va_up_ne M (.inr (12, modF ad mb (upd mv 2 0))) (show mb + 14 ≠ mb by omega)).trans m_mb_14) ((va_up_ne M (.inr (12, modF ad mb (upd mv 2 0))) (show mb + 15 ≠ mb by omega)).trans m_mb_15) ((va_up_ne M (.inr (12, modF ad mb (upd mv 2 0))) (show mb + 17 ≠ mb by omega)).trans m_mb_17) ((va_up_ne M (.inr (12, modF ad mb (upd mv 2 0))) (show mb + 18 ≠ mb by omega)).trans m_mb_18) ((va_up_ne M (.inr (12, modF ad mb (upd mv 2 0))) (show mb + 32 ≠ mb by omega)).trans m_mb_32) ((va_up_ne M (.inr (12, modF ad mb (upd mv 2 0))) (show mb + 33 ≠ mb by omega)).trans m_mb_33) k0 hnp k1 hnc k2 hnt k3 hnq (by first | assumption | omega | exact vp_in_nI (by omega) (by decide) | exact vp_in_iff.mpr (by decide)) hu) X hK hP hS hl.1 rfl gX13_sure_X13_waysOf yd_X13_waysOf ⟨Nat.le_of_ble_eq_true rfl, Nat.le_of_ble_eq_true rfl⟩ h_mb (va_up_self M mb (.inr (12, modF ad mb (upd mv 2 0)))) (ci := 12) rfl rfl (Nat.le_of_ble_eq_true rfl) ⟨Nat.zero_le _, Nat.zero_le _⟩ dX13_sure_79 (fun r11 M10 H locs hp9 hP hS => ?_)
          obtain ⟨er15, g12, g13, fr14⟩ := hp9
          replace er15 := er15.symm
          subst er15
          refine lv_lstore_n (lv' := [(3, .long ((if 0 = (0 : Int32) then gwS2 (limitF x.toNatClampNeg) ((s_X13_sumAt nt kindF heavyF wideF hotF placeF x 1) - (s_X13_unsureAt nt unsureF placeF x)) (rxS placeF x uN rowsF rowsNextF nt).1 (nWS placeF x uN nt) 0 0 else wWS placeF x uN nt))), (0, .ref (ad mb)), (1, .int x), (2, .int y)]) hx hb dX13_sure_82 rfl hl (by decide) rfl (fun ls hl => ?_)
          refine lv_aload_n hx hb dX13_sure_83 rfl (lv_at hl 1 rfl) ?_
          refine lv_iload_n hx hb dX13_sure_84 rfl (lv_at hl 2 rfl) ?_
          refine lv_iconst (v := 1) hx hb dX13_sure_85 (by decide) ?_
          refine q_wrVl (As := [.int x, .int 1]) (rest := []) (c_X13_waysOf l D cB cI cJ ad n M10 hI mb nt nc np nq (upd mv 2 0) toldF limitF kindF heavyF unsureF wideF hotF placeF ((rxS placeF x uN rowsF rowsNextF nt).1) ((rxS placeF x uN rowsF rowsNextF nt).2) uN x 1 h_mb h_mb_3 h_mb_8 h_mb_12 h_mb_13 h_mb_14 h_mb_15 h_mb_17 h_mb_18 h_mb_32 h_mb_33 ((fr14 mb (by omega) (by omega)).trans (va_up_self M mb (.inr (12, modF ad mb (upd mv 2 0))))) ((fr14 (mb + 3) (by omega) (by omega)).trans ((va_up_ne M (.inr (12, modF ad mb (upd mv 2 0))) (show mb + 3 ≠ mb by omega)).trans m_mb_3)) ((fr14 (mb + 8) (by omega) (by omega)).trans ((va_up_ne M (.inr (12, modF ad mb (upd mv 2 0))) (show mb + 8 ≠ mb by omega)).trans m_mb_8)) ((fr14 (mb + 12) (by omega) (by omega)).trans ((va_up_ne M (.inr (12, modF ad mb (upd mv 2 0))) (show mb + 12 ≠ mb by omega)).trans m_mb_12)) ((fr14 (mb + 13) (by omega) (by omega)).trans ((va_up_ne M (.inr (12, modF ad mb (upd mv 2 0))) (show mb + 13 ≠ mb by omega)).trans m_mb_13)) ((fr14 (mb + 14) (by omega) (by omega)).trans ((va_up_ne M (.inr (12, modF ad mb (upd mv 2 0))) (show mb + 14 ≠ mb by omega)).trans m_mb_14)) ((fr14 (mb + 15) (by omega) (by omega)).trans ((va_up_ne M (.inr (12, modF ad mb (upd mv 2 0))) (show mb + 15 ≠ mb by omega)).trans m_mb_15)) ((fr14 (mb + 17) (by omega) (by omega)).trans ((va_up_ne M (.inr (12, modF ad mb (upd mv 2 0))) (show mb + 17 ≠ mb by omega)).trans m_mb_17)) ((fr14 (mb + 18) (by omega) (by omega)).trans ((va_up_ne M (.inr (12, modF ad mb (upd mv 2 0))) (show mb + 18 ≠ mb by omega)).trans m_mb_18)) g12 g13 k0 hnp k1 hnc k2 hnt k3 hnq (by first | assumption | omega | exact vp_in_nI (by omega) (by decide) | exact vp_in_iff.mpr (by decide)) hu) X hK hP hS hl.1 rfl gX13_sure_X13_waysOf yd_X13_waysOf ⟨Nat.le_of_ble_eq_true rfl, Nat.le_of_ble_eq_true rfl⟩ h_mb ((fr14 mb (by omega) (by omega)).trans (va_up_self M mb (.inr (12, modF ad mb (upd mv 2 0))))) (ci := 12) rfl rfl (Nat.le_of_ble_eq_true rfl) ⟨Nat.zero_le _, Nat.zero_le _⟩ dX13_sure_86 (fun r18 M17 H locs hp16 hP hS => ?_)
          obtain ⟨er22, g19, g20, fr21⟩ := hp16
          replace er22 := er22.symm
          subst er22
          refine lv_lstore (lv' := [(5, .long ((if 1 = (0 : Int32) then gwS2 (limitF x.toNatClampNeg) ((s_X13_sumAt nt kindF heavyF wideF hotF placeF x 1) - (s_X13_unsureAt nt unsureF placeF x)) (rxS placeF x uN ((rxS placeF x uN rowsF rowsNextF nt).1) ((rxS placeF x uN rowsF rowsNextF nt).2) nt).1 (nWS placeF x uN nt) 0 0 else wWS placeF x uN nt))), (3, .long ((if 0 = (0 : Int32) then gwS2 (limitF x.toNatClampNeg) ((s_X13_sumAt nt kindF heavyF wideF hotF placeF x 1) - (s_X13_unsureAt nt unsureF placeF x)) (rxS placeF x uN rowsF rowsNextF nt).1 (nWS placeF x uN nt) 0 0 else wWS placeF x uN nt))), (0, .ref (ad mb)), (1, .int x), (2, .int y)]) hx hb dX13_sure_89 hl (by decide) rfl (fun ls hl => ?_)
          refine lv_iload_n hx hb dX13_sure_91 rfl (lv_at hl 4 rfl) ?_
          refine lv_iconst (v := 3) hx hb dX13_sure_92 (by decide) ?_
          refine lv_icmp_ne (tgt := 100) hx hb dX13_sure_93 (by decide) (fun c_93 => ?_) (fun c_93 => ?_)
          · skip
            rw [show ((if 0 = (0 : Int32) then gwS2 (limitF x.toNatClampNeg) ((s_X13_sumAt nt kindF heavyF wideF hotF placeF x 1) - (s_X13_unsureAt nt unsureF placeF x)) (rxS placeF x uN rowsF rowsNextF nt).1 (nWS placeF x uN nt) 0 0 else wWS placeF x uN nt)) = (gwS2 (limitF x.toNatClampNeg) ((s_X13_sumAt nt kindF heavyF wideF hotF placeF x 1) - (s_X13_unsureAt nt unsureF placeF x)) (rxS placeF x uN rowsF rowsNextF nt).1 (nWS placeF x uN nt) 0 0) from if_pos rfl] at hl
            rw [show ((if 1 = (0 : Int32) then gwS2 (limitF x.toNatClampNeg) ((s_X13_sumAt nt kindF heavyF wideF hotF placeF x 1) - (s_X13_unsureAt nt unsureF placeF x)) (rxS placeF x uN ((rxS placeF x uN rowsF rowsNextF nt).1) ((rxS placeF x uN rowsF rowsNextF nt).2) nt).1 (nWS placeF x uN nt) 0 0 else wWS placeF x uN nt)) = (wWS placeF x uN nt) from if_neg (by decide)] at hl
            refine lv_lload hx hb dX13_sure_100 (lv_at hl 0 rfl) ?_
            refine lv_lload hx hb dX13_sure_102 (lv_at hl 0 rfl) ?_
            refine lv_lload_n hx hb dX13_sure_104 rfl (lv_at hl 1 rfl) ?_
            refine q_rdSl (As := [.long (wWS placeF x uN nt), .long (gwS2 (limitF x.toNatClampNeg) ((s_X13_sumAt nt kindF heavyF wideF hotF placeF x 1) - (s_X13_unsureAt nt unsureF placeF x)) (rxS placeF x uN rowsF rowsNextF nt).1 (nWS placeF x uN nt) 0 0)]) (rest := [.long (wWS placeF x uN nt)]) (c_X13_commonL l D cB cI cJ ad n M17 ((wWS placeF x uN nt).toInt.toNat) ((gwS2 (limitF x.toNatClampNeg) ((s_X13_sumAt nt kindF heavyF wideF hotF placeF x 1) - (s_X13_unsureAt nt unsureF placeF x)) (rxS placeF x uN rowsF rowsNextF nt).1 (nWS placeF x uN nt) 0 0).toInt.toNat) (wWS placeF x uN nt) (gwS2 (limitF x.toNatClampNeg) ((s_X13_sumAt nt kindF heavyF wideF hotF placeF x 1) - (s_X13_unsureAt nt unsureF placeF x)) (rxS placeF x uN rowsF rowsNextF nt).1 (nWS placeF x uN nt) 0 0)   ((sur_a (pl := placeF) (x := x) (fun t h => (hu t h).2) hnt).2.1) ((sur_g (pl := placeF) (x := x) (fun t h => (hu t h).2) hnt).2) ((sur_a (pl := placeF) (x := x) (fun t h => (hu t h).2) hnt).1) ((sur_g (pl := placeF) (x := x) (fun t h => (hu t h).2) hnt).1)) X hK hP hS hl.1 rfl gX13_sure_X13_common yd_X13_common ⟨Nat.le_of_ble_eq_true rfl, Nat.le_of_ble_eq_true rfl⟩ rfl (Nat.le_of_ble_eq_true rfl) ⟨Nat.zero_le _, Nat.zero_le _⟩ dX13_sure_105 ?_
            refine lv_ldiv hx hb dX13_sure_108 (gcd_nz (sur_a (pl := placeF) (x := x) (fun t h => (hu t h).2) hnt).2.2 (sur_a (pl := placeF) (x := x) (fun t h => (hu t h).2) hnt).2.1) ?_
            exact q_wlret X hr hlocks hP hS ⟨_, _, (by rw [s_X13_sure, if_neg c_10, if_neg c_22, if_pos c_34, if_neg c_66, if_neg c_93]), g19, g20, (by rw [s_X13_sure_2_1, if_neg c_10, if_neg c_22, if_pos c_34, if_neg c_66, if_neg c_93]; exact ((fr21 mb (by omega) (by omega)).trans ((fr14 mb (by omega) (by omega)).trans (va_up_self M mb (.inr (12, modF ad mb (upd mv 2 0))))))), (fun q n0 n1 n2 => ((fr21 q n0 n1).trans ((fr14 q n0 n1).trans (va_up_ne _ _ n2))))⟩ dX13_sure_109
          · skip
            rw [show ((if 0 = (0 : Int32) then gwS2 (limitF x.toNatClampNeg) ((s_X13_sumAt nt kindF heavyF wideF hotF placeF x 1) - (s_X13_unsureAt nt unsureF placeF x)) (rxS placeF x uN rowsF rowsNextF nt).1 (nWS placeF x uN nt) 0 0 else wWS placeF x uN nt)) = (gwS2 (limitF x.toNatClampNeg) ((s_X13_sumAt nt kindF heavyF wideF hotF placeF x 1) - (s_X13_unsureAt nt unsureF placeF x)) (rxS placeF x uN rowsF rowsNextF nt).1 (nWS placeF x uN nt) 0 0) from if_pos rfl] at hl
            rw [show ((if 1 = (0 : Int32) then gwS2 (limitF x.toNatClampNeg) ((s_X13_sumAt nt kindF heavyF wideF hotF placeF x 1) - (s_X13_unsureAt nt unsureF placeF x)) (rxS placeF x uN ((rxS placeF x uN rowsF rowsNextF nt).1) ((rxS placeF x uN rowsF rowsNextF nt).2) nt).1 (nWS placeF x uN nt) 0 0 else wWS placeF x uN nt)) = (wWS placeF x uN nt) from if_neg (by decide)] at hl
            refine lv_lload_n hx hb dX13_sure_96 rfl (lv_at hl 1 rfl) ?_
            refine lv_goto (tgt := 102) hx hb dX13_sure_97 (by decide) ?_
            refine lv_lload hx hb dX13_sure_102 (lv_at hl 0 rfl) ?_
            refine lv_lload_n hx hb dX13_sure_104 rfl (lv_at hl 1 rfl) ?_
            refine q_rdSl (As := [.long (wWS placeF x uN nt), .long (gwS2 (limitF x.toNatClampNeg) ((s_X13_sumAt nt kindF heavyF wideF hotF placeF x 1) - (s_X13_unsureAt nt unsureF placeF x)) (rxS placeF x uN rowsF rowsNextF nt).1 (nWS placeF x uN nt) 0 0)]) (rest := [.long (gwS2 (limitF x.toNatClampNeg) ((s_X13_sumAt nt kindF heavyF wideF hotF placeF x 1) - (s_X13_unsureAt nt unsureF placeF x)) (rxS placeF x uN rowsF rowsNextF nt).1 (nWS placeF x uN nt) 0 0)]) (c_X13_commonL l D cB cI cJ ad n M17 ((wWS placeF x uN nt).toInt.toNat) ((gwS2 (limitF x.toNatClampNeg) ((s_X13_sumAt nt kindF heavyF wideF hotF placeF x 1) - (s_X13_unsureAt nt unsureF placeF x)) (rxS placeF x uN rowsF rowsNextF nt).1 (nWS placeF x uN nt) 0 0).toInt.toNat) (wWS placeF x uN nt) (gwS2 (limitF x.toNatClampNeg) ((s_X13_sumAt nt kindF heavyF wideF hotF placeF x 1) - (s_X13_unsureAt nt unsureF placeF x)) (rxS placeF x uN rowsF rowsNextF nt).1 (nWS placeF x uN nt) 0 0)   ((sur_a (pl := placeF) (x := x) (fun t h => (hu t h).2) hnt).2.1) ((sur_g (pl := placeF) (x := x) (fun t h => (hu t h).2) hnt).2) ((sur_a (pl := placeF) (x := x) (fun t h => (hu t h).2) hnt).1) ((sur_g (pl := placeF) (x := x) (fun t h => (hu t h).2) hnt).1)) X hK hP hS hl.1 rfl gX13_sure_X13_common yd_X13_common ⟨Nat.le_of_ble_eq_true rfl, Nat.le_of_ble_eq_true rfl⟩ rfl (Nat.le_of_ble_eq_true rfl) ⟨Nat.zero_le _, Nat.zero_le _⟩ dX13_sure_105 ?_
            refine lv_ldiv hx hb dX13_sure_108 (gcd_nz (sur_a (pl := placeF) (x := x) (fun t h => (hu t h).2) hnt).2.2 (sur_a (pl := placeF) (x := x) (fun t h => (hu t h).2) hnt).2.1) ?_
            exact q_wlret X hr hlocks hP hS ⟨_, _, (by rw [s_X13_sure, if_neg c_10, if_neg c_22, if_pos c_34, if_neg c_66, if_pos c_93]), g19, g20, (by rw [s_X13_sure_2_1, if_neg c_10, if_neg c_22, if_pos c_34, if_neg c_66, if_pos c_93]; exact ((fr21 mb (by omega) (by omega)).trans ((fr14 mb (by omega) (by omega)).trans (va_up_self M mb (.inr (12, modF ad mb (upd mv 2 0))))))), (fun q n0 n1 n2 => ((fr21 q n0 n1).trans ((fr14 q n0 n1).trans (va_up_ne _ _ n2))))⟩ dX13_sure_109
        · skip
          refine lv_aload_n hx hb dX13_sure_69 rfl (lv_at hl 0 rfl) ?_
          refine lv_iload_n hx hb dX13_sure_70 rfl (lv_at hl 1 rfl) ?_
          refine q_rdV (As := [.int x]) (rest := []) (c_X13_sureOf l D cB cI cJ ad n (va_up M mb (.inr (12, modF ad mb (upd mv 2 0)))) mb nt nc np nq (upd mv 2 0) toldF limitF kindF heavyF unsureF wideF hotF placeF x h_mb h_mb_3 h_mb_8 h_mb_12 h_mb_13 h_mb_14 h_mb_15 h_mb_17 h_mb_18 (va_up_self M mb (.inr (12, modF ad mb (upd mv 2 0)))) ((va_up_ne M (.inr (12, modF ad mb (upd mv 2 0))) (show mb + 3 ≠ mb by omega)).trans m_mb_3) ((va_up_ne M (.inr (12, modF ad mb (upd mv 2 0))) (show mb + 8 ≠ mb by omega)).trans m_mb_8) ((va_up_ne M (.inr (12, modF ad mb (upd mv 2 0))) (show mb + 12 ≠ mb by omega)).trans m_mb_12) ((va_up_ne M (.inr (12, modF ad mb (upd mv 2 0))) (show mb + 13 ≠ mb by omega)).trans m_mb_13) ((va_up_ne M (.inr (12, modF ad mb (upd mv 2 0))) (show mb + 14 ≠ mb by omega)).trans m_mb_14) ((va_up_ne M (.inr (12, modF ad mb (upd mv 2 0))) (show mb + 15 ≠ mb by omega)).trans m_mb_15) ((va_up_ne M (.inr (12, modF ad mb (upd mv 2 0))) (show mb + 17 ≠ mb by omega)).trans m_mb_17) ((va_up_ne M (.inr (12, modF ad mb (upd mv 2 0))) (show mb + 18 ≠ mb by omega)).trans m_mb_18) k0 hnp k1 hnc k2 hnt k3 hnq (by first | assumption | omega | exact vp_in_nI (by omega) (by decide) | exact vp_in_iff.mpr (by decide))) X hK hP hS hl.1 rfl gX13_sure_X13_sureOf yd_X13_sureOf ⟨Nat.le_of_ble_eq_true rfl, Nat.le_of_ble_eq_true rfl⟩ h_mb (va_up_self M mb (.inr (12, modF ad mb (upd mv 2 0)))) (ci := 12) rfl rfl (Nat.le_of_ble_eq_true rfl) ⟨Nat.zero_le _, Nat.zero_le _⟩ dX13_sure_71 ?_
          refine lv_i2l hx hb dX13_sure_74 rfl ?_
          exact q_wlret X hr hlocks hP hS ⟨_, _, (by rw [s_X13_sure, if_neg c_10, if_neg c_22, if_pos c_34, if_pos c_66]), ((va_up_ne M (.inr (12, modF ad mb (upd mv 2 0))) (show mb + 32 ≠ mb by omega)).trans m_mb_32), ((va_up_ne M (.inr (12, modF ad mb (upd mv 2 0))) (show mb + 33 ≠ mb by omega)).trans m_mb_33), (by rw [s_X13_sure_2_1, if_neg c_10, if_neg c_22, if_pos c_34, if_pos c_66]; exact (va_up_self M mb (.inr (12, modF ad mb (upd mv 2 0))))), (fun q n0 n1 n2 => (va_up_ne _ _ n2))⟩ dX13_sure_75
      · skip
        refine lv_aload_n hx hb dX13_sure_37 rfl (lv_at hl 0 rfl) ?_
        refine lv_iload_n hx hb dX13_sure_38 rfl (lv_at hl 1 rfl) ?_
        refine lv_iconst (v := 1) hx hb dX13_sure_39 (by decide) ?_
        refine q_rdV (As := [.int x, .int 1]) (rest := []) (c_X13_sumAt l D cB cI cJ ad n (va_up M mb (.inr (12, modF ad mb (upd mv 2 0)))) mb nt nc np nq (upd mv 2 0) toldF kindF heavyF wideF hotF placeF x 1 h_mb h_mb_3 h_mb_12 h_mb_13 h_mb_15 h_mb_17 h_mb_18 (va_up_self M mb (.inr (12, modF ad mb (upd mv 2 0)))) ((va_up_ne M (.inr (12, modF ad mb (upd mv 2 0))) (show mb + 3 ≠ mb by omega)).trans m_mb_3) ((va_up_ne M (.inr (12, modF ad mb (upd mv 2 0))) (show mb + 12 ≠ mb by omega)).trans m_mb_12) ((va_up_ne M (.inr (12, modF ad mb (upd mv 2 0))) (show mb + 13 ≠ mb by omega)).trans m_mb_13) ((va_up_ne M (.inr (12, modF ad mb (upd mv 2 0))) (show mb + 15 ≠ mb by omega)).trans m_mb_15) ((va_up_ne M (.inr (12, modF ad mb (upd mv 2 0))) (show mb + 17 ≠ mb by omega)).trans m_mb_17) ((va_up_ne M (.inr (12, modF ad mb (upd mv 2 0))) (show mb + 18 ≠ mb by omega)).trans m_mb_18) k0 hnp k1 hnc k2 hnt k3 hnq) X hK hP hS hl.1 rfl gX13_sure_X13_sumAt yd_X13_sumAt ⟨Nat.le_of_ble_eq_true rfl, Nat.le_of_ble_eq_true rfl⟩ h_mb (va_up_self M mb (.inr (12, modF ad mb (upd mv 2 0)))) (ci := 12) rfl rfl (Nat.le_of_ble_eq_true rfl) ⟨Nat.zero_le _, Nat.zero_le _⟩ dX13_sure_40 ?_
        refine lv_iload_n hx hb dX13_sure_43 rfl (lv_at hl 2 rfl) ?_
        refine lv_if_ne (tgt := 56) hx hb dX13_sure_44 (by decide) (fun c_44 => ?_) (fun c_44 => ?_)
        · skip
          refine lv_aload_n hx hb dX13_sure_56 rfl (lv_at hl 0 rfl) ?_
          refine lv_iload_n hx hb dX13_sure_57 rfl (lv_at hl 1 rfl) ?_
          refine q_rdV (As := [.int x]) (rest := [.int (s_X13_sumAt nt kindF heavyF wideF hotF placeF x 1)]) (c_X13_unsureAt l D cB cI cJ ad n (va_up M mb (.inr (12, modF ad mb (upd mv 2 0)))) mb nt nc np nq (upd mv 2 0) toldF unsureF placeF x h_mb h_mb_3 h_mb_14 h_mb_18 (va_up_self M mb (.inr (12, modF ad mb (upd mv 2 0)))) ((va_up_ne M (.inr (12, modF ad mb (upd mv 2 0))) (show mb + 3 ≠ mb by omega)).trans m_mb_3) ((va_up_ne M (.inr (12, modF ad mb (upd mv 2 0))) (show mb + 14 ≠ mb by omega)).trans m_mb_14) ((va_up_ne M (.inr (12, modF ad mb (upd mv 2 0))) (show mb + 18 ≠ mb by omega)).trans m_mb_18) k0 hnp k1 hnc k2 hnt k3 hnq) X hK hP hS hl.1 rfl gX13_sure_X13_unsureAt yd_X13_unsureAt ⟨Nat.le_of_ble_eq_true rfl, Nat.le_of_ble_eq_true rfl⟩ h_mb (va_up_self M mb (.inr (12, modF ad mb (upd mv 2 0)))) (ci := 12) rfl rfl (Nat.le_of_ble_eq_true rfl) ⟨Nat.zero_le _, Nat.zero_le _⟩ dX13_sure_58 ?_
          refine lv_iadd hx hb dX13_sure_61 ?_
          refine lv_i2l hx hb dX13_sure_62 rfl ?_
          exact q_wlret X hr hlocks hP hS ⟨_, _, (by rw [s_X13_sure, if_neg c_10, if_neg c_22, if_neg c_34, if_neg c_44]), ((va_up_ne M (.inr (12, modF ad mb (upd mv 2 0))) (show mb + 32 ≠ mb by omega)).trans m_mb_32), ((va_up_ne M (.inr (12, modF ad mb (upd mv 2 0))) (show mb + 33 ≠ mb by omega)).trans m_mb_33), (by rw [s_X13_sure_2_1, if_neg c_10, if_neg c_22, if_neg c_34, if_neg c_44]; exact (va_up_self M mb (.inr (12, modF ad mb (upd mv 2 0))))), (fun q n0 n1 n2 => (va_up_ne _ _ n2))⟩ dX13_sure_63
        · skip
          refine lv_aload_n hx hb dX13_sure_47 rfl (lv_at hl 0 rfl) ?_
          refine lv_iload_n hx hb dX13_sure_48 rfl (lv_at hl 1 rfl) ?_
          refine q_rdV (As := [.int x]) (rest := [.int (s_X13_sumAt nt kindF heavyF wideF hotF placeF x 1)]) (c_X13_unsureAt l D cB cI cJ ad n (va_up M mb (.inr (12, modF ad mb (upd mv 2 0)))) mb nt nc np nq (upd mv 2 0) toldF unsureF placeF x h_mb h_mb_3 h_mb_14 h_mb_18 (va_up_self M mb (.inr (12, modF ad mb (upd mv 2 0)))) ((va_up_ne M (.inr (12, modF ad mb (upd mv 2 0))) (show mb + 3 ≠ mb by omega)).trans m_mb_3) ((va_up_ne M (.inr (12, modF ad mb (upd mv 2 0))) (show mb + 14 ≠ mb by omega)).trans m_mb_14) ((va_up_ne M (.inr (12, modF ad mb (upd mv 2 0))) (show mb + 18 ≠ mb by omega)).trans m_mb_18) k0 hnp k1 hnc k2 hnt k3 hnq) X hK hP hS hl.1 rfl gX13_sure_X13_unsureAt yd_X13_unsureAt ⟨Nat.le_of_ble_eq_true rfl, Nat.le_of_ble_eq_true rfl⟩ h_mb (va_up_self M mb (.inr (12, modF ad mb (upd mv 2 0)))) (ci := 12) rfl rfl (Nat.le_of_ble_eq_true rfl) ⟨Nat.zero_le _, Nat.zero_le _⟩ dX13_sure_49 ?_
          refine lv_ineg hx hb dX13_sure_52 ?_
          refine lv_goto (tgt := 61) hx hb dX13_sure_53 (by decide) ?_
          refine lv_iadd hx hb dX13_sure_61 ?_
          refine lv_i2l hx hb dX13_sure_62 rfl ?_
          exact q_wlret X hr hlocks hP hS ⟨_, _, (by rw [s_X13_sure, if_neg c_10, if_neg c_22, if_neg c_34, if_pos c_44]), ((va_up_ne M (.inr (12, modF ad mb (upd mv 2 0))) (show mb + 32 ≠ mb by omega)).trans m_mb_32), ((va_up_ne M (.inr (12, modF ad mb (upd mv 2 0))) (show mb + 33 ≠ mb by omega)).trans m_mb_33), (by rw [s_X13_sure_2_1, if_neg c_10, if_neg c_22, if_neg c_34, if_pos c_44]; exact (va_up_self M mb (.inr (12, modF ad mb (upd mv 2 0))))), (fun q n0 n1 n2 => (va_up_ne _ _ n2))⟩ dX13_sure_63
    · skip
      refine lv_aload_n hx hb dX13_sure_25 rfl (lv_at hl 0 rfl) ?_
      refine lv_iconst (v := 1) hx hb dX13_sure_26 (by decide) ?_
      refine q_wrVi (As := [.int 1]) (rest := []) (c_X13_fail l D cB cI cJ ad n (va_up M mb (.inr (12, modF ad mb (upd mv 2 0)))) hI mb (upd mv 2 0) 1 h_mb (va_up_self M mb (.inr (12, modF ad mb (upd mv 2 0)))) ) X hK hP hS hl.1 rfl gX13_sure_X13_fail yd_X13_fail ⟨Nat.le_of_ble_eq_true rfl, Nat.le_of_ble_eq_true rfl⟩ h_mb (va_up_self M mb (.inr (12, modF ad mb (upd mv 2 0)))) (ci := 12) rfl rfl (Nat.le_of_ble_eq_true rfl) ⟨Nat.zero_le _, Nat.zero_le _⟩ dX13_sure_27 (fun r25 M24 H locs hp23 hP hS => ?_)
      obtain ⟨er28, g26, fr27⟩ := hp23
      replace er28 := er28.symm
      subst er28
      refine lv_i2l hx hb dX13_sure_30 rfl ?_
      exact q_wlret X hr hlocks hP hS ⟨_, _, (by rw [s_X13_sure, if_neg c_10, if_pos c_22]), ((fr27 (mb + 32) (by omega)).trans ((va_up_ne M (.inr (12, modF ad mb (upd mv 2 0))) (show mb + 32 ≠ mb by omega)).trans m_mb_32)), ((fr27 (mb + 33) (by omega)).trans ((va_up_ne M (.inr (12, modF ad mb (upd mv 2 0))) (show mb + 33 ≠ mb by omega)).trans m_mb_33)), (by rw [s_X13_sure_2_1, if_neg c_10, if_pos c_22]; exact g26), (fun q n0 n1 n2 => ((fr27 q n2).trans (va_up_ne _ _ n2)))⟩ dX13_sure_31
set_option maxRecDepth 20000 in
theorem fX13_weigh_173 : FL wsX13_weigh RX13 173 12 2 := ⟨RX13, TX13, 67, rfl, by decide +kernel, by decide, by decide +kernel⟩
set_option maxRecDepth 20000 in
theorem fX13_weigh_40 : FL wsX13_weigh RX13 40 12 3 := ⟨RX13, TX13, 67, rfl, by decide +kernel, by decide, by decide +kernel⟩
theorem yd_X13_knownBy : YD yX13_knownBy 1 := ⟨by decide +kernel, by decide +kernel, by decide +kernel⟩
set_option maxRecDepth 20000 in
theorem fX13_weigh_72 : FL wsX13_weigh RX13 72 12 14 := ⟨RX13, TX13, 67, rfl, by decide +kernel, by decide, by decide +kernel⟩
set_option maxRecDepth 20000 in
theorem fX13_weigh_84 : FL wsX13_weigh RX13 84 12 18 := ⟨RX13, TX13, 67, rfl, by decide +kernel, by decide, by decide +kernel⟩
set_option maxHeartbeats 4000000 in
set_option maxRecDepth 100000 in
theorem c_X13_weigh (l : Launch) (D : va_G) (cB cI cJ : ClassId) (ad : Nat → Nat) (n : Nat) (M : Nat → va_E) (hI : ipI ad n) (mb : Nat) (nt : Nat) (nc : Nat) (np : Nat) (nq : Nat) (mv : Nat → Int32) (toldF : Nat → Int32) (limitF : Nat → Int32) (kindF : Nat → Int32) (heavyF : Nat → Int32) (unsureF : Nat → Int32) (wideF : Nat → Int32) (hotF : Nat → Int32) (placeF : Nat → Int32) (hN : Nat → Nat) (uN : Nat → Nat) (x : Int32) (y : Int32) (h_mb : mb < n) (h_mb_3 : mb + 3 < n) (h_mb_8 : mb + 8 < n) (h_mb_12 : mb + 12 < n) (h_mb_13 : mb + 13 < n) (h_mb_14 : mb + 14 < n) (h_mb_15 : mb + 15 < n) (h_mb_17 : mb + 17 < n) (h_mb_18 : mb + 18 < n) (m_mb : M mb = .inr (12, modF ad mb mv)) (m_mb_3 : M (mb + 3) = .inl (cI, 14, .inl toldF)) (m_mb_8 : M (mb + 8) = .inl (cI, 10, .inl limitF)) (m_mb_12 : M (mb + 12) = .inl (cI, 24, .inl kindF)) (m_mb_13 : M (mb + 13) = .inl (cI, 24, .inl heavyF)) (m_mb_14 : M (mb + 14) = .inl (cI, 24, .inl unsureF)) (m_mb_15 : M (mb + 15) = .inl (cI, 24, .inl wideF)) (m_mb_17 : M (mb + 17) = .inl (cI, 24, .inl hotF)) (m_mb_18 : M (mb + 18) = .inl (cI, 24, .inl placeF)) (k0 : toldF 0 = nI np) (hnp : np ≤ 4) (k1 : toldF 1 = nI nc) (hnc : nc ≤ 5) (k2 : toldF 2 = nI nt) (hnt : nt ≤ 12) (k3 : toldF 3 = nI nq) (hnq : nq ≤ 6) (hu : ∀ t : Nat, t < nt → unsureF t = nI (uN t) ∧ uN t ≤ 9) (hwu : ∀ t : Nat, t < nt → heavyF t = nI (hN t) ∧ uN t ≤ hN t ∧ hN t ≤ 60) : cWi l D cB cI cJ ad n M yX13_weigh wsX13_weigh 2 51 [.ref (ad mb), .int x, .int y] (fun r M' => r = (if s_X13_isCase toldF x = 0 then s_X13_fail else if s_X13_isIn y.toInt64 0 2 = 0 then s_X13_fail else wgS (kbT (limitF x.toNatClampNeg) (s_X13_sumAt nt kindF heavyF wideF hotF placeF x 1) (s_X13_unsureAt nt unsureF placeF x) hN uN) unsureF (if (s_X13_sureOf nt limitF kindF heavyF unsureF wideF hotF placeF x) = 2 then (wbS (kbT (limitF x.toNatClampNeg) (s_X13_sumAt nt kindF heavyF wideF hotF placeF x 1) (s_X13_unsureAt nt unsureF placeF x) hN uN) unsureF placeF x nt) else -1) y) ∧ M' mb = .inr (12, modF ad mb ((upd mv 2 (if s_X13_isCase toldF x = 0 then 1 else if s_X13_isIn y.toInt64 0 2 = 0 then 1 else 0)))) ∧ ∀ q : Nat, q ≠ mb → M' q = M q) := by
  refine q_body (cc := cX13_weigh) (maxL := 7) (ret := (some .int)) (by decide) rfl (Nat.le_of_ble_eq_true rfl) ?_
  intro p e s m args below meth c ls X hr hlocks hK hP hl
  obtain ⟨hx, hb, hml, hown, hts⟩ := id X
  have hS : va_S (ipA ad n) s.heap s.heap [] := va_S.rf
  have hl : lv_has ls 7 [(0, .ref (ad mb)), (1, .int x), (2, .int y)] := hl
  refine lv_aload_n hx hb dX13_weigh_0 rfl (lv_at hl 0 rfl) ?_
  refine lv_iconst (v := 0) hx hb dX13_weigh_1 (by decide) ?_
  refine q_put (fs := modF ad mb mv) (fs' := modF ad mb (upd mv 2 0)) X hK hI hP hS fX13_weigh_173 fw_12_2 h_mb m_mb rfl rfl (Nat.le_of_ble_eq_true rfl) rfl dX13_weigh_2 (fun H locs hP hS => ?_)
  refine lv_aload_n hx hb dX13_weigh_5 rfl (lv_at hl 0 rfl) ?_
  refine lv_iload_n hx hb dX13_weigh_6 rfl (lv_at hl 1 rfl) ?_
  refine q_rdV (As := [.int x]) (rest := []) (c_X13_isCase l D cB cI cJ ad n (va_up M mb (.inr (12, modF ad mb (upd mv 2 0)))) mb nt nc np nq (upd mv 2 0) toldF x h_mb h_mb_3 (va_up_self M mb (.inr (12, modF ad mb (upd mv 2 0)))) ((va_up_ne M (.inr (12, modF ad mb (upd mv 2 0))) (show mb + 3 ≠ mb by omega)).trans m_mb_3) k0 hnp k1 hnc k2 hnt k3 hnq) X hK hP hS hl.1 rfl gX13_weigh_X13_isCase yd_X13_isCase ⟨Nat.le_of_ble_eq_true rfl, Nat.le_of_ble_eq_true rfl⟩ h_mb (va_up_self M mb (.inr (12, modF ad mb (upd mv 2 0)))) (ci := 12) rfl rfl (Nat.le_of_ble_eq_true rfl) ⟨Nat.zero_le _, Nat.zero_le _⟩ dX13_weigh_7 ?_
  refine lv_if_eq (tgt := 25) hx hb dX13_weigh_10 (by decide) (fun c_10 => ?_) (fun c_10 => ?_)
  · skip
    refine lv_aload_n hx hb dX13_weigh_25 rfl (lv_at hl 0 rfl) ?_
    refine lv_iconst (v := 1) hx hb dX13_weigh_26 (by decide) ?_
    refine q_wrVi (As := [.int 1]) (rest := []) (c_X13_fail l D cB cI cJ ad n (va_up M mb (.inr (12, modF ad mb (upd mv 2 0)))) hI mb (upd mv 2 0) 1 h_mb (va_up_self M mb (.inr (12, modF ad mb (upd mv 2 0)))) ) X hK hP hS hl.1 rfl gX13_weigh_X13_fail yd_X13_fail ⟨Nat.le_of_ble_eq_true rfl, Nat.le_of_ble_eq_true rfl⟩ h_mb (va_up_self M mb (.inr (12, modF ad mb (upd mv 2 0)))) (ci := 12) rfl rfl (Nat.le_of_ble_eq_true rfl) ⟨Nat.zero_le _, Nat.zero_le _⟩ dX13_weigh_27 (fun r5 M4 H locs hp3 hP hS => ?_)
    obtain ⟨er8, g6, fr7⟩ := hp3
    replace er8 := er8.symm
    subst er8
    exact q_wzret X hr hlocks hP hS (rfl) ⟨(by first | (rw [if_pos c_10]; done) | (rw [if_neg c_10, if_pos c_22]; done)), (by refine g6.trans (modC ?_); (first | rw [if_pos c_10] | rw [if_neg c_10, if_pos c_22]); funext j9; simp only [upd]; split <;> rfl), (fun q n0 => ((fr7 q n0).trans (va_up_ne _ _ n0)))⟩ dX13_weigh_30
  · skip
    have hv_10 := isCase_vp k1 hnc c_10
    refine lv_iload_n hx hb dX13_weigh_13 rfl (lv_at hl 2 rfl) ?_
    refine lv_i2l hx hb dX13_weigh_14 rfl ?_
    refine lv_lconst (v := 0) hx hb dX13_weigh_15 (by decide) ?_
    refine lv_ldc2 (v := 2) hx hb hown (hts _ (by decide +kernel)) dX13_weigh_16 ?_
    refine q_rdS (As := [.long y.toInt64, .long 0, .long 2]) (rest := []) (c_X13_isIn l D cB cI cJ ad n (va_up M mb (.inr (12, modF ad mb (upd mv 2 0)))) y.toInt64 0 2   ) X hK hP hS hl.1 rfl gX13_weigh_X13_isIn yd_X13_isIn ⟨Nat.le_of_ble_eq_true rfl, Nat.le_of_ble_eq_true rfl⟩ rfl (Nat.le_of_ble_eq_true rfl) ⟨Nat.zero_le _, Nat.zero_le _⟩ dX13_weigh_19 ?_
    refine lv_if_ne (tgt := 31) hx hb dX13_weigh_22 (by decide) (fun c_22 => ?_) (fun c_22 => ?_)
    · skip
      refine lv_iconst (v := (-1)) hx hb dX13_weigh_31 (by decide) ?_
      refine lv_istore_n (lv' := [(3, .int (-1)), (0, .ref (ad mb)), (1, .int x), (2, .int y)]) hx hb dX13_weigh_32 rfl hl (by decide) rfl (fun ls hl => ?_)
      refine lv_iconst (v := 0) hx hb dX13_weigh_33 (by decide) ?_
      refine lv_istore (lv' := [(4, .int 0), (3, .int (-1)), (0, .ref (ad mb)), (1, .int x), (2, .int y)]) hx hb dX13_weigh_34 hl (by decide) rfl (fun ls hl => ?_)
      have loop_36 : ∀ (fuel : Nat) (t : Nat) (x3 : Int32) (x4 : Int32), nt - t < fuel → (t ≤ nt) → (t = 0 ∨ (s_X13_sureOf nt limitF kindF heavyF unsureF wideF hotF placeF x) = 2) → x3 = (wbS (kbT (limitF x.toNatClampNeg) (s_X13_sumAt nt kindF heavyF wideF hotF placeF x 1) (s_X13_unsureAt nt unsureF placeF x) hN uN) unsureF placeF x t) → x4 = nI t → ∀ (ML36 : Nat → va_E) (H : Heap) (locs : List Loc), ML36 mb = .inr (12, modF ad mb ((upd mv 2 0))) → (∀ q : Nat, q ≠ mb → ML36 q = M q) → va_P D vwCl (ip ad n ML36) H → va_S (ipA ad n) s.heap H locs → ∀ (ls : Array Slot), lv_has ls 7 [(0, .ref (ad mb)), (1, .int x), (2, .int y), (3, .int x3), (4, .int x4)] → W p l e (rmOf 2 51) s m args below meth c H locs 0 0 (MQ below (va_Qi (fun r M' => r = (if s_X13_isCase toldF x = 0 then s_X13_fail else if s_X13_isIn y.toInt64 0 2 = 0 then s_X13_fail else wgS (kbT (limitF x.toNatClampNeg) (s_X13_sumAt nt kindF heavyF wideF hotF placeF x 1) (s_X13_unsureAt nt unsureF placeF x) hN uN) unsureF (if (s_X13_sureOf nt limitF kindF heavyF unsureF wideF hotF placeF x) = 2 then (wbS (kbT (limitF x.toNatClampNeg) (s_X13_sumAt nt kindF heavyF wideF hotF placeF x 1) (s_X13_unsureAt nt unsureF placeF x) hN uN) unsureF placeF x nt) else -1) y) ∧ M' mb = .inr (12, modF ad mb ((upd mv 2 (if s_X13_isCase toldF x = 0 then 1 else if s_X13_isIn y.toInt64 0 2 = 0 then 1 else 0)))) ∧ ∀ q : Nat, q ≠ mb → M' q = M q) (fun M' t => va_P D vwCl (ip ad n M') t.heap) (ipA ad n)) args s 0 0 (ipA ad n)) (F0 m 36 ls []) := by
        intro fuel
        induction fuel with
        | zero =>
          intro t x3 x4 hz
          exact absurd hz (Nat.not_lt_zero _)
        | succ fuel ih_36 =>
          intro t x3 x4 hz_36 ht hq9 e3 e4 ML36 H locs mL36_0 fL36 hP hS ls hl
          subst e3
          subst e4
          skip
          refine lv_iload hx hb dX13_weigh_36 (lv_at hl 4 rfl) ?_
          refine lv_aload_n hx hb dX13_weigh_38 rfl (lv_at hl 0 rfl) ?_
          refine q_get (v := .ref (ad (mb + 3))) (fs := modF ad mb ((upd mv 2 0))) X hK hP fX13_weigh_40 h_mb mL36_0 rfl dX13_weigh_39 ?_
          refine lv_iconst (v := 2) hx hb dX13_weigh_42 (by decide) ?_
          refine q_ialdN (f := toldF) (k := 14) X hK hP 2 h_mb_3 ((fL36 (mb + 3) (by omega)).trans m_mb_3) (by decide) (by decide) dX13_weigh_43 ?_
          refine lv_icmp_ge (tgt := 121) hx hb dX13_weigh_44 (by decide) (fun c_44 => ?_) (fun c_44 => ?_)
          · skip
            rw [k2] at c_44; have h9 : t = nt := eq_of_le c_44 (by omega) ht; have hw9 : (wbS (kbT (limitF x.toNatClampNeg) (s_X13_sumAt nt kindF heavyF wideF hotF placeF x 1) (s_X13_unsureAt nt unsureF placeF x) hN uN) unsureF placeF x t) = (if (s_X13_sureOf nt limitF kindF heavyF unsureF wideF hotF placeF x) = 2 then (wbS (kbT (limitF x.toNatClampNeg) (s_X13_sumAt nt kindF heavyF wideF hotF placeF x 1) (s_X13_unsureAt nt unsureF placeF x) hN uN) unsureF placeF x nt) else -1) := (by subst h9; exact hq9.elim (fun q9 => by (rw [q9]; split <;> rfl)) (fun q9 => by rw [if_pos q9]))
            rw [show (wbS (kbT (limitF x.toNatClampNeg) (s_X13_sumAt nt kindF heavyF wideF hotF placeF x 1) (s_X13_unsureAt nt unsureF placeF x) hN uN) unsureF placeF x t) = (if (s_X13_sureOf nt limitF kindF heavyF unsureF wideF hotF placeF x) = 2 then (wbS (kbT (limitF x.toNatClampNeg) (s_X13_sumAt nt kindF heavyF wideF hotF placeF x 1) (s_X13_unsureAt nt unsureF placeF x) hN uN) unsureF placeF x nt) else -1) from hw9] at hl
            refine lv_iload_n hx hb dX13_weigh_121 rfl (lv_at hl 3 rfl) ?_
            refine lv_iconst (v := (-1)) hx hb dX13_weigh_122 (by decide) ?_
            refine lv_icmp_ne (tgt := 138) hx hb dX13_weigh_123 (by decide) (fun c_123 => ?_) (fun c_123 => ?_)
            · skip
              obtain ⟨b, hb9, hb2, hb3⟩ : ∃ b : Nat, b < nt ∧ (if (s_X13_sureOf nt limitF kindF heavyF unsureF wideF hotF placeF x) = 2 then (wbS (kbT (limitF x.toNatClampNeg) (s_X13_sumAt nt kindF heavyF wideF hotF placeF x 1) (s_X13_unsureAt nt unsureF placeF x) hN uN) unsureF placeF x nt) else -1) = nI b ∧ placeF b = x := (Classical.byCases (fun q9 : (s_X13_sureOf nt limitF kindF heavyF unsureF wideF hotF placeF x) = 2 => by (rw [if_pos q9] at c_123 ⊢; exact (wbS_b nt).resolve_left c_123)) (fun q9 => by (rw [if_neg q9] at c_123; exact absurd rfl c_123)))
              rw [show (if (s_X13_sureOf nt limitF kindF heavyF unsureF wideF hotF placeF x) = 2 then (wbS (kbT (limitF x.toNatClampNeg) (s_X13_sumAt nt kindF heavyF wideF hotF placeF x 1) (s_X13_unsureAt nt unsureF placeF x) hN uN) unsureF placeF x nt) else -1) = (nI b) from hb2] at hl
              refine lv_aload_n hx hb dX13_weigh_138 rfl (lv_at hl 0 rfl) ?_
              refine lv_iload_n hx hb dX13_weigh_139 rfl (lv_at hl 3 rfl) ?_
              refine q_rdV (As := [.int (nI b)]) (rest := []) (c_X13_knownByN l D cB cI cJ ad n ML36 mb nt nc np nq (upd mv 2 0) toldF limitF kindF heavyF unsureF wideF hotF placeF hN uN b x h_mb h_mb_3 h_mb_8 h_mb_12 h_mb_13 h_mb_14 h_mb_15 h_mb_17 h_mb_18 mL36_0 ((fL36 (mb + 3) (by omega)).trans m_mb_3) ((fL36 (mb + 8) (by omega)).trans m_mb_8) ((fL36 (mb + 12) (by omega)).trans m_mb_12) ((fL36 (mb + 13) (by omega)).trans m_mb_13) ((fL36 (mb + 14) (by omega)).trans m_mb_14) ((fL36 (mb + 15) (by omega)).trans m_mb_15) ((fL36 (mb + 17) (by omega)).trans m_mb_17) ((fL36 (mb + 18) (by omega)).trans m_mb_18) k0 hnp k1 hnc k2 hnt k3 hnq (hb9) (hb3) (hv_10) (hu) (hwu)) X hK hP hS hl.1 rfl gX13_weigh_X13_knownBy yd_X13_knownBy ⟨Nat.le_of_ble_eq_true rfl, Nat.le_of_ble_eq_true rfl⟩ h_mb mL36_0 (ci := 12) rfl rfl (Nat.le_of_ble_eq_true rfl) ⟨Nat.zero_le _, Nat.zero_le _⟩ dX13_weigh_140 ?_
              refine lv_istore (lv' := [(4, .int ((kbT (limitF x.toNatClampNeg) (s_X13_sumAt nt kindF heavyF wideF hotF placeF x 1) (s_X13_unsureAt nt unsureF placeF x) hN uN) b)), (0, .ref (ad mb)), (1, .int x), (2, .int y), (3, .int (nI b))]) hx hb dX13_weigh_143 hl (by decide) rfl (fun ls hl => ?_)
              refine lv_iconst (v := 2) hx hb dX13_weigh_145 (by decide) ?_
              refine lv_aload_n hx hb dX13_weigh_146 rfl (lv_at hl 1 rfl) ?_
              refine q_get (v := .ref (ad (mb + 14))) (fs := modF ad mb ((upd mv 2 0))) X hK hP fX13_weigh_72 h_mb mL36_0 rfl dX13_weigh_147 ?_
              refine lv_iload_n hx hb dX13_weigh_150 rfl (lv_at hl 4 rfl) ?_
              refine q_ialdN (f := unsureF) (k := 24) X hK hP b h_mb_14 ((fL36 (mb + 14) (by omega)).trans m_mb_14) (by omega) (by decide) dX13_weigh_151 ?_
              refine lv_imul hx hb dX13_weigh_152 ?_
              refine lv_iconst (v := 1) hx hb dX13_weigh_153 (by decide) ?_
              refine lv_iadd hx hb dX13_weigh_154 ?_
              refine lv_istore (lv' := [(5, .int ((2 * (unsureF b)) + 1)), (4, .int ((kbT (limitF x.toNatClampNeg) (s_X13_sumAt nt kindF heavyF wideF hotF placeF x 1) (s_X13_unsureAt nt unsureF placeF x) hN uN) b)), (0, .ref (ad mb)), (1, .int x), (2, .int y), (3, .int (nI b))]) hx hb dX13_weigh_155 hl (by decide) rfl (fun ls hl => ?_)
              refine lv_iload hx hb dX13_weigh_157 (lv_at hl 0 rfl) ?_
              refine lv_i2l hx hb dX13_weigh_159 rfl ?_
              refine lv_iload hx hb dX13_weigh_160 (lv_at hl 1 rfl) ?_
              refine lv_i2l hx hb dX13_weigh_162 rfl ?_
              refine q_rdSl (As := [.long (((2 * (unsureF b)) + 1).toInt64), .long (((kbT (limitF x.toNatClampNeg) (s_X13_sumAt nt kindF heavyF wideF hotF placeF x 1) (s_X13_unsureAt nt unsureF placeF x) hN uN) b).toInt64)]) (rest := []) (c_X13_commonL l D cB cI cJ ad n ML36 ((2 * unsureF b + 1).toNatClampNeg) (((kbT (limitF x.toNatClampNeg) (s_X13_sumAt nt kindF heavyF wideF hotF placeF x 1) (s_X13_unsureAt nt unsureF placeF x) hN uN) b).toNatClampNeg) (((2 * (unsureF b)) + 1).toInt64) (((kbT (limitF x.toNatClampNeg) (s_X13_sumAt nt kindF heavyF wideF hotF placeF x 1) (s_X13_unsureAt nt unsureF placeF x) hN uN) b).toInt64)   (Nat.lt_of_le_of_lt (low_n (hu b hb9).1 (hu b hb9).2).2.1 (by decide)) (Nat.lt_of_le_of_lt (kbT_n (li := limitF x.toNatClampNeg) (ot := s_X13_sumAt nt kindF heavyF wideF hotF placeF x 1) (off := s_X13_unsureAt nt unsureF placeF x) (hN := hN) (hu b hb9).2).2 (by decide)) (lnI (low_n (hu b hb9).1 (hu b hb9).2).1 (low_n (hu b hb9).1 (hu b hb9).2).2.1 (by decide)) (lnI (kbT_n (li := limitF x.toNatClampNeg) (ot := s_X13_sumAt nt kindF heavyF wideF hotF placeF x 1) (off := s_X13_unsureAt nt unsureF placeF x) (hN := hN) (hu b hb9).2).1 (kbT_n (li := limitF x.toNatClampNeg) (ot := s_X13_sumAt nt kindF heavyF wideF hotF placeF x 1) (off := s_X13_unsureAt nt unsureF placeF x) (hN := hN) (hu b hb9).2).2 (by decide))) X hK hP hS hl.1 rfl gX13_weigh_X13_common yd_X13_common ⟨Nat.le_of_ble_eq_true rfl, Nat.le_of_ble_eq_true rfl⟩ rfl (Nat.le_of_ble_eq_true rfl) ⟨Nat.zero_le _, Nat.zero_le _⟩ dX13_weigh_163 ?_
              refine lv_l2i hx hb dX13_weigh_166 rfl ?_
              refine lv_istore (lv' := [(6, .int ((lN (Nat.gcd ((2 * unsureF b + 1).toNatClampNeg) (((kbT (limitF x.toNatClampNeg) (s_X13_sumAt nt kindF heavyF wideF hotF placeF x 1) (s_X13_unsureAt nt unsureF placeF x) hN uN) b).toNatClampNeg))).toInt32)), (5, .int ((2 * (unsureF b)) + 1)), (4, .int ((kbT (limitF x.toNatClampNeg) (s_X13_sumAt nt kindF heavyF wideF hotF placeF x 1) (s_X13_unsureAt nt unsureF placeF x) hN uN) b)), (0, .ref (ad mb)), (1, .int x), (2, .int y), (3, .int (nI b))]) hx hb dX13_weigh_167 hl (by decide) rfl (fun ls hl => ?_)
              refine lv_iload_n hx hb dX13_weigh_169 rfl (lv_at hl 5 rfl) ?_
              refine lv_if_ne (tgt := 177) hx hb dX13_weigh_170 (by decide) (fun c_170 => ?_) (fun c_170 => ?_)
              · skip
                refine lv_iload_n hx hb dX13_weigh_177 rfl (lv_at hl 5 rfl) ?_
                refine lv_iconst (v := 1) hx hb dX13_weigh_178 (by decide) ?_
                refine lv_icmp_ne (tgt := 190) hx hb dX13_weigh_179 (by decide) (fun c_179 => ?_) (fun c_179 => ?_)
                · skip
                  refine lv_iload hx hb dX13_weigh_190 (lv_at hl 1 rfl) ?_
                  refine lv_iload hx hb dX13_weigh_192 (lv_at hl 0 rfl) ?_
                  refine lv_idiv hx hb dX13_weigh_194 (gcd_nzI (low_n (hu b hb9).1 (hu b hb9).2).2.2 (low_n (hu b hb9).1 (hu b hb9).2).2.1) ?_
                  exact q_wzret X hr hlocks hP hS (rfl) ⟨(by rw [if_neg c_10, if_neg c_22, wgS, if_neg c_123, hb2, nI_clamp (show b < 2 ^ 31 by omega)]; first | (rw [if_pos c_170]; done) | (rw [if_neg c_170, if_pos c_179]; done) | (rw [if_neg c_170, if_neg c_179]; done)), (by rw [if_neg c_10, if_neg c_22]; exact mL36_0), (fun q n0 => (fL36 q n0))⟩ dX13_weigh_195
                · skip
                  refine lv_iload hx hb dX13_weigh_182 (lv_at hl 2 rfl) ?_
                  refine lv_iload hx hb dX13_weigh_184 (lv_at hl 0 rfl) ?_
                  refine lv_idiv hx hb dX13_weigh_186 (gcd_nzI (low_n (hu b hb9).1 (hu b hb9).2).2.2 (low_n (hu b hb9).1 (hu b hb9).2).2.1) ?_
                  refine lv_goto (tgt := 195) hx hb dX13_weigh_187 (by decide) ?_
                  exact q_wzret X hr hlocks hP hS (rfl) ⟨(by rw [if_neg c_10, if_neg c_22, wgS, if_neg c_123, hb2, nI_clamp (show b < 2 ^ 31 by omega)]; first | (rw [if_pos c_170]; done) | (rw [if_neg c_170, if_pos c_179]; done) | (rw [if_neg c_170, if_neg c_179]; done)), (by rw [if_neg c_10, if_neg c_22]; exact mL36_0), (fun q n0 => (fL36 q n0))⟩ dX13_weigh_195
              · skip
                refine lv_iload_n hx hb dX13_weigh_173 rfl (lv_at hl 6 rfl) ?_
                refine lv_goto (tgt := 195) hx hb dX13_weigh_174 (by decide) ?_
                exact q_wzret X hr hlocks hP hS (rfl) ⟨(by rw [if_neg c_10, if_neg c_22, wgS, if_neg c_123, hb2, nI_clamp (show b < 2 ^ 31 by omega)]; first | (rw [if_pos c_170]; done) | (rw [if_neg c_170, if_pos c_179]; done) | (rw [if_neg c_170, if_neg c_179]; done)), (by rw [if_neg c_10, if_neg c_22]; exact mL36_0), (fun q n0 => (fL36 q n0))⟩ dX13_weigh_195
            · skip
              refine lv_iload_n hx hb dX13_weigh_126 rfl (lv_at hl 2 rfl) ?_
              refine lv_if_ne (tgt := 134) hx hb dX13_weigh_127 (by decide) (fun c_127 => ?_) (fun c_127 => ?_)
              · skip
                refine lv_iload_n hx hb dX13_weigh_134 rfl (lv_at hl 2 rfl) ?_
                refine lv_iconst (v := 1) hx hb dX13_weigh_135 (by decide) ?_
                refine lv_isub hx hb dX13_weigh_136 ?_
                exact q_wzret X hr hlocks hP hS (rfl) ⟨(by rw [if_neg c_10, if_neg c_22, wgS, if_pos c_123]; first | (rw [if_pos c_127]; done) | (rw [if_neg c_127]; done)), (by rw [if_neg c_10, if_neg c_22]; exact mL36_0), (fun q n0 => (fL36 q n0))⟩ dX13_weigh_137
              · skip
                refine lv_iconst (v := (-1)) hx hb dX13_weigh_130 (by decide) ?_
                refine lv_goto (tgt := 137) hx hb dX13_weigh_131 (by decide) ?_
                exact q_wzret X hr hlocks hP hS (rfl) ⟨(by rw [if_neg c_10, if_neg c_22, wgS, if_pos c_123]; first | (rw [if_pos c_127]; done) | (rw [if_neg c_127]; done)), (by rw [if_neg c_10, if_neg c_22]; exact mL36_0), (fun q n0 => (fL36 q n0))⟩ dX13_weigh_137
          · skip
            rw [k2] at c_44; have h9 := lt_of_nlt c_44 (by omega) ht
            refine lv_aload_n hx hb dX13_weigh_47 rfl (lv_at hl 0 rfl) ?_
            refine lv_iload_n hx hb dX13_weigh_48 rfl (lv_at hl 1 rfl) ?_
            refine q_rdV (As := [.int x]) (rest := []) (c_X13_sureOf l D cB cI cJ ad n ML36 mb nt nc np nq (upd mv 2 0) toldF limitF kindF heavyF unsureF wideF hotF placeF x h_mb h_mb_3 h_mb_8 h_mb_12 h_mb_13 h_mb_14 h_mb_15 h_mb_17 h_mb_18 mL36_0 ((fL36 (mb + 3) (by omega)).trans m_mb_3) ((fL36 (mb + 8) (by omega)).trans m_mb_8) ((fL36 (mb + 12) (by omega)).trans m_mb_12) ((fL36 (mb + 13) (by omega)).trans m_mb_13) ((fL36 (mb + 14) (by omega)).trans m_mb_14) ((fL36 (mb + 15) (by omega)).trans m_mb_15) ((fL36 (mb + 17) (by omega)).trans m_mb_17) ((fL36 (mb + 18) (by omega)).trans m_mb_18) k0 hnp k1 hnc k2 hnt k3 hnq (by first | assumption | omega | exact vp_in_nI (by omega) (by decide) | exact vp_in_iff.mpr (by decide))) X hK hP hS hl.1 rfl gX13_weigh_X13_sureOf yd_X13_sureOf ⟨Nat.le_of_ble_eq_true rfl, Nat.le_of_ble_eq_true rfl⟩ h_mb mL36_0 (ci := 12) rfl rfl (Nat.le_of_ble_eq_true rfl) ⟨Nat.zero_le _, Nat.zero_le _⟩ dX13_weigh_49 ?_
            refine lv_iconst (v := 2) hx hb dX13_weigh_52 (by decide) ?_
            refine lv_icmp_ne (tgt := 121) hx hb dX13_weigh_53 (by decide) (fun c_53 => ?_) (fun c_53 => ?_)
            · skip
              have hw9 : (wbS (kbT (limitF x.toNatClampNeg) (s_X13_sumAt nt kindF heavyF wideF hotF placeF x 1) (s_X13_unsureAt nt unsureF placeF x) hN uN) unsureF placeF x t) = (if (s_X13_sureOf nt limitF kindF heavyF unsureF wideF hotF placeF x) = 2 then (wbS (kbT (limitF x.toNatClampNeg) (s_X13_sumAt nt kindF heavyF wideF hotF placeF x 1) (s_X13_unsureAt nt unsureF placeF x) hN uN) unsureF placeF x nt) else -1) := (by rw [if_neg c_53]; exact hq9.elim (fun q9 => by (rw [q9]; rfl)) (fun q9 => absurd q9 c_53))
              rw [show (wbS (kbT (limitF x.toNatClampNeg) (s_X13_sumAt nt kindF heavyF wideF hotF placeF x 1) (s_X13_unsureAt nt unsureF placeF x) hN uN) unsureF placeF x t) = (if (s_X13_sureOf nt limitF kindF heavyF unsureF wideF hotF placeF x) = 2 then (wbS (kbT (limitF x.toNatClampNeg) (s_X13_sumAt nt kindF heavyF wideF hotF placeF x 1) (s_X13_unsureAt nt unsureF placeF x) hN uN) unsureF placeF x nt) else -1) from hw9] at hl
              refine lv_iload_n hx hb dX13_weigh_121 rfl (lv_at hl 3 rfl) ?_
              refine lv_iconst (v := (-1)) hx hb dX13_weigh_122 (by decide) ?_
              refine lv_icmp_ne (tgt := 138) hx hb dX13_weigh_123 (by decide) (fun c_123 => ?_) (fun c_123 => ?_)
              · skip
                obtain ⟨b, hb9, hb2, hb3⟩ : ∃ b : Nat, b < nt ∧ (if (s_X13_sureOf nt limitF kindF heavyF unsureF wideF hotF placeF x) = 2 then (wbS (kbT (limitF x.toNatClampNeg) (s_X13_sumAt nt kindF heavyF wideF hotF placeF x 1) (s_X13_unsureAt nt unsureF placeF x) hN uN) unsureF placeF x nt) else -1) = nI b ∧ placeF b = x := (Classical.byCases (fun q9 : (s_X13_sureOf nt limitF kindF heavyF unsureF wideF hotF placeF x) = 2 => by (rw [if_pos q9] at c_123 ⊢; exact (wbS_b nt).resolve_left c_123)) (fun q9 => by (rw [if_neg q9] at c_123; exact absurd rfl c_123)))
                rw [show (if (s_X13_sureOf nt limitF kindF heavyF unsureF wideF hotF placeF x) = 2 then (wbS (kbT (limitF x.toNatClampNeg) (s_X13_sumAt nt kindF heavyF wideF hotF placeF x 1) (s_X13_unsureAt nt unsureF placeF x) hN uN) unsureF placeF x nt) else -1) = (nI b) from hb2] at hl
                refine lv_aload_n hx hb dX13_weigh_138 rfl (lv_at hl 0 rfl) ?_
                refine lv_iload_n hx hb dX13_weigh_139 rfl (lv_at hl 3 rfl) ?_
                refine q_rdV (As := [.int (nI b)]) (rest := []) (c_X13_knownByN l D cB cI cJ ad n ML36 mb nt nc np nq (upd mv 2 0) toldF limitF kindF heavyF unsureF wideF hotF placeF hN uN b x h_mb h_mb_3 h_mb_8 h_mb_12 h_mb_13 h_mb_14 h_mb_15 h_mb_17 h_mb_18 mL36_0 ((fL36 (mb + 3) (by omega)).trans m_mb_3) ((fL36 (mb + 8) (by omega)).trans m_mb_8) ((fL36 (mb + 12) (by omega)).trans m_mb_12) ((fL36 (mb + 13) (by omega)).trans m_mb_13) ((fL36 (mb + 14) (by omega)).trans m_mb_14) ((fL36 (mb + 15) (by omega)).trans m_mb_15) ((fL36 (mb + 17) (by omega)).trans m_mb_17) ((fL36 (mb + 18) (by omega)).trans m_mb_18) k0 hnp k1 hnc k2 hnt k3 hnq (hb9) (hb3) (hv_10) (hu) (hwu)) X hK hP hS hl.1 rfl gX13_weigh_X13_knownBy yd_X13_knownBy ⟨Nat.le_of_ble_eq_true rfl, Nat.le_of_ble_eq_true rfl⟩ h_mb mL36_0 (ci := 12) rfl rfl (Nat.le_of_ble_eq_true rfl) ⟨Nat.zero_le _, Nat.zero_le _⟩ dX13_weigh_140 ?_
                refine lv_istore (lv' := [(4, .int ((kbT (limitF x.toNatClampNeg) (s_X13_sumAt nt kindF heavyF wideF hotF placeF x 1) (s_X13_unsureAt nt unsureF placeF x) hN uN) b)), (0, .ref (ad mb)), (1, .int x), (2, .int y), (3, .int (nI b))]) hx hb dX13_weigh_143 hl (by decide) rfl (fun ls hl => ?_)
                refine lv_iconst (v := 2) hx hb dX13_weigh_145 (by decide) ?_
                refine lv_aload_n hx hb dX13_weigh_146 rfl (lv_at hl 1 rfl) ?_
                refine q_get (v := .ref (ad (mb + 14))) (fs := modF ad mb ((upd mv 2 0))) X hK hP fX13_weigh_72 h_mb mL36_0 rfl dX13_weigh_147 ?_
                refine lv_iload_n hx hb dX13_weigh_150 rfl (lv_at hl 4 rfl) ?_
                refine q_ialdN (f := unsureF) (k := 24) X hK hP b h_mb_14 ((fL36 (mb + 14) (by omega)).trans m_mb_14) (by omega) (by decide) dX13_weigh_151 ?_
                refine lv_imul hx hb dX13_weigh_152 ?_
                refine lv_iconst (v := 1) hx hb dX13_weigh_153 (by decide) ?_
                refine lv_iadd hx hb dX13_weigh_154 ?_
                refine lv_istore (lv' := [(5, .int ((2 * (unsureF b)) + 1)), (4, .int ((kbT (limitF x.toNatClampNeg) (s_X13_sumAt nt kindF heavyF wideF hotF placeF x 1) (s_X13_unsureAt nt unsureF placeF x) hN uN) b)), (0, .ref (ad mb)), (1, .int x), (2, .int y), (3, .int (nI b))]) hx hb dX13_weigh_155 hl (by decide) rfl (fun ls hl => ?_)
                refine lv_iload hx hb dX13_weigh_157 (lv_at hl 0 rfl) ?_
                refine lv_i2l hx hb dX13_weigh_159 rfl ?_
                refine lv_iload hx hb dX13_weigh_160 (lv_at hl 1 rfl) ?_
                refine lv_i2l hx hb dX13_weigh_162 rfl ?_
                refine q_rdSl (As := [.long (((2 * (unsureF b)) + 1).toInt64), .long (((kbT (limitF x.toNatClampNeg) (s_X13_sumAt nt kindF heavyF wideF hotF placeF x 1) (s_X13_unsureAt nt unsureF placeF x) hN uN) b).toInt64)]) (rest := []) (c_X13_commonL l D cB cI cJ ad n ML36 ((2 * unsureF b + 1).toNatClampNeg) (((kbT (limitF x.toNatClampNeg) (s_X13_sumAt nt kindF heavyF wideF hotF placeF x 1) (s_X13_unsureAt nt unsureF placeF x) hN uN) b).toNatClampNeg) (((2 * (unsureF b)) + 1).toInt64) (((kbT (limitF x.toNatClampNeg) (s_X13_sumAt nt kindF heavyF wideF hotF placeF x 1) (s_X13_unsureAt nt unsureF placeF x) hN uN) b).toInt64)   (Nat.lt_of_le_of_lt (low_n (hu b hb9).1 (hu b hb9).2).2.1 (by decide)) (Nat.lt_of_le_of_lt (kbT_n (li := limitF x.toNatClampNeg) (ot := s_X13_sumAt nt kindF heavyF wideF hotF placeF x 1) (off := s_X13_unsureAt nt unsureF placeF x) (hN := hN) (hu b hb9).2).2 (by decide)) (lnI (low_n (hu b hb9).1 (hu b hb9).2).1 (low_n (hu b hb9).1 (hu b hb9).2).2.1 (by decide)) (lnI (kbT_n (li := limitF x.toNatClampNeg) (ot := s_X13_sumAt nt kindF heavyF wideF hotF placeF x 1) (off := s_X13_unsureAt nt unsureF placeF x) (hN := hN) (hu b hb9).2).1 (kbT_n (li := limitF x.toNatClampNeg) (ot := s_X13_sumAt nt kindF heavyF wideF hotF placeF x 1) (off := s_X13_unsureAt nt unsureF placeF x) (hN := hN) (hu b hb9).2).2 (by decide))) X hK hP hS hl.1 rfl gX13_weigh_X13_common yd_X13_common ⟨Nat.le_of_ble_eq_true rfl, Nat.le_of_ble_eq_true rfl⟩ rfl (Nat.le_of_ble_eq_true rfl) ⟨Nat.zero_le _, Nat.zero_le _⟩ dX13_weigh_163 ?_
                refine lv_l2i hx hb dX13_weigh_166 rfl ?_
                refine lv_istore (lv' := [(6, .int ((lN (Nat.gcd ((2 * unsureF b + 1).toNatClampNeg) (((kbT (limitF x.toNatClampNeg) (s_X13_sumAt nt kindF heavyF wideF hotF placeF x 1) (s_X13_unsureAt nt unsureF placeF x) hN uN) b).toNatClampNeg))).toInt32)), (5, .int ((2 * (unsureF b)) + 1)), (4, .int ((kbT (limitF x.toNatClampNeg) (s_X13_sumAt nt kindF heavyF wideF hotF placeF x 1) (s_X13_unsureAt nt unsureF placeF x) hN uN) b)), (0, .ref (ad mb)), (1, .int x), (2, .int y), (3, .int (nI b))]) hx hb dX13_weigh_167 hl (by decide) rfl (fun ls hl => ?_)
                refine lv_iload_n hx hb dX13_weigh_169 rfl (lv_at hl 5 rfl) ?_
                refine lv_if_ne (tgt := 177) hx hb dX13_weigh_170 (by decide) (fun c_170 => ?_) (fun c_170 => ?_)
                · skip
                  refine lv_iload_n hx hb dX13_weigh_177 rfl (lv_at hl 5 rfl) ?_
                  refine lv_iconst (v := 1) hx hb dX13_weigh_178 (by decide) ?_
                  refine lv_icmp_ne (tgt := 190) hx hb dX13_weigh_179 (by decide) (fun c_179 => ?_) (fun c_179 => ?_)
                  · skip
                    refine lv_iload hx hb dX13_weigh_190 (lv_at hl 1 rfl) ?_
                    refine lv_iload hx hb dX13_weigh_192 (lv_at hl 0 rfl) ?_
                    refine lv_idiv hx hb dX13_weigh_194 (gcd_nzI (low_n (hu b hb9).1 (hu b hb9).2).2.2 (low_n (hu b hb9).1 (hu b hb9).2).2.1) ?_
                    exact q_wzret X hr hlocks hP hS (rfl) ⟨(by rw [if_neg c_10, if_neg c_22, wgS, if_neg c_123, hb2, nI_clamp (show b < 2 ^ 31 by omega)]; first | (rw [if_pos c_170]; done) | (rw [if_neg c_170, if_pos c_179]; done) | (rw [if_neg c_170, if_neg c_179]; done)), (by rw [if_neg c_10, if_neg c_22]; exact mL36_0), (fun q n0 => (fL36 q n0))⟩ dX13_weigh_195
                  · skip
                    refine lv_iload hx hb dX13_weigh_182 (lv_at hl 2 rfl) ?_
                    refine lv_iload hx hb dX13_weigh_184 (lv_at hl 0 rfl) ?_
                    refine lv_idiv hx hb dX13_weigh_186 (gcd_nzI (low_n (hu b hb9).1 (hu b hb9).2).2.2 (low_n (hu b hb9).1 (hu b hb9).2).2.1) ?_
                    refine lv_goto (tgt := 195) hx hb dX13_weigh_187 (by decide) ?_
                    exact q_wzret X hr hlocks hP hS (rfl) ⟨(by rw [if_neg c_10, if_neg c_22, wgS, if_neg c_123, hb2, nI_clamp (show b < 2 ^ 31 by omega)]; first | (rw [if_pos c_170]; done) | (rw [if_neg c_170, if_pos c_179]; done) | (rw [if_neg c_170, if_neg c_179]; done)), (by rw [if_neg c_10, if_neg c_22]; exact mL36_0), (fun q n0 => (fL36 q n0))⟩ dX13_weigh_195
                · skip
                  refine lv_iload_n hx hb dX13_weigh_173 rfl (lv_at hl 6 rfl) ?_
                  refine lv_goto (tgt := 195) hx hb dX13_weigh_174 (by decide) ?_
                  exact q_wzret X hr hlocks hP hS (rfl) ⟨(by rw [if_neg c_10, if_neg c_22, wgS, if_neg c_123, hb2, nI_clamp (show b < 2 ^ 31 by omega)]; first | (rw [if_pos c_170]; done) | (rw [if_neg c_170, if_pos c_179]; done) | (rw [if_neg c_170, if_neg c_179]; done)), (by rw [if_neg c_10, if_neg c_22]; exact mL36_0), (fun q n0 => (fL36 q n0))⟩ dX13_weigh_195
              · skip
                refine lv_iload_n hx hb dX13_weigh_126 rfl (lv_at hl 2 rfl) ?_
                refine lv_if_ne (tgt := 134) hx hb dX13_weigh_127 (by decide) (fun c_127 => ?_) (fun c_127 => ?_)
                · skip
                  refine lv_iload_n hx hb dX13_weigh_134 rfl (lv_at hl 2 rfl) ?_
                  refine lv_iconst (v := 1) hx hb dX13_weigh_135 (by decide) ?_
                  refine lv_isub hx hb dX13_weigh_136 ?_
                  exact q_wzret X hr hlocks hP hS (rfl) ⟨(by rw [if_neg c_10, if_neg c_22, wgS, if_pos c_123]; first | (rw [if_pos c_127]; done) | (rw [if_neg c_127]; done)), (by rw [if_neg c_10, if_neg c_22]; exact mL36_0), (fun q n0 => (fL36 q n0))⟩ dX13_weigh_137
                · skip
                  refine lv_iconst (v := (-1)) hx hb dX13_weigh_130 (by decide) ?_
                  refine lv_goto (tgt := 137) hx hb dX13_weigh_131 (by decide) ?_
                  exact q_wzret X hr hlocks hP hS (rfl) ⟨(by rw [if_neg c_10, if_neg c_22, wgS, if_pos c_123]; first | (rw [if_pos c_127]; done) | (rw [if_neg c_127]; done)), (by rw [if_neg c_10, if_neg c_22]; exact mL36_0), (fun q n0 => (fL36 q n0))⟩ dX13_weigh_137
            · skip
              refine lv_aload_n hx hb dX13_weigh_56 rfl (lv_at hl 0 rfl) ?_
              refine q_get (v := .ref (ad (mb + 18))) (fs := modF ad mb ((upd mv 2 0))) X hK hP fX13_weigh_84 h_mb mL36_0 rfl dX13_weigh_57 ?_
              refine lv_iload hx hb dX13_weigh_60 (lv_at hl 4 rfl) ?_
              refine q_ialdN (f := placeF) (k := 24) X hK hP t h_mb_18 ((fL36 (mb + 18) (by omega)).trans m_mb_18) (by omega) (by decide) dX13_weigh_62 ?_
              refine lv_iload_n hx hb dX13_weigh_63 rfl (lv_at hl 1 rfl) ?_
              refine lv_icmp_eq (tgt := 70) hx hb dX13_weigh_64 (by decide) (fun c_64 => ?_) (fun c_64 => ?_)
              · skip
                refine lv_iload_n hx hb dX13_weigh_70 rfl (lv_at hl 3 rfl) ?_
                refine lv_iconst (v := (-1)) hx hb dX13_weigh_71 (by decide) ?_
                refine lv_icmp_eq (tgt := 112) hx hb dX13_weigh_72 (by decide) (fun c_72 => ?_) (fun c_72 => ?_)
                · skip
                  refine lv_iload hx hb dX13_weigh_112 (lv_at hl 4 rfl) ?_
                  refine lv_istore_n (lv' := [(3, .int (nI t)), (0, .ref (ad mb)), (1, .int x), (2, .int y), (4, .int (nI t))]) hx hb dX13_weigh_114 rfl hl (by decide) rfl (fun ls hl => ?_)
                  refine lv_iinc (v := ((nI t) + 1)) (lv' := [(4, .int ((nI t) + 1)), (3, .int (nI t)), (0, .ref (ad mb)), (1, .int x), (2, .int y)]) hx hb dX13_weigh_115 hl (k := 4) rfl rfl (by decide) rfl (fun ls hl => ?_)
                  refine lv_goto (tgt := 36) hx hb dX13_weigh_118 (by decide) ?_
                  exact ih_36 (t + 1) (nI t) ((nI t) + 1) (by omega) (by omega) (by exact Or.inr c_53) (by rw [wbS]; first | (rw [if_neg c_64]; done) | (rw [if_pos c_64, if_pos c_72]; done) | (rw [if_pos c_64, if_neg c_72, hb2, nI_clamp (by omega), if_pos c_109]; done) | (rw [if_pos c_64, if_neg c_72, hb2, nI_clamp (by omega), if_neg c_109]; done)) (by exact nI_1 _) _ _ _ mL36_0 (fun q n0 => (fL36 q n0)) hP hS ls (lv_sub hl [2, 3, 4, 1, 0] rfl)
                · skip
                  obtain ⟨b, hb1, hb2, hb3⟩ := (wbS_b (kb := (kbT (limitF x.toNatClampNeg) (s_X13_sumAt nt kindF heavyF wideF hotF placeF x 1) (s_X13_unsureAt nt unsureF placeF x) hN uN)) (uF := unsureF) (pl := placeF) (x := x) t).resolve_left c_72
                  rw [show (wbS (kbT (limitF x.toNatClampNeg) (s_X13_sumAt nt kindF heavyF wideF hotF placeF x 1) (s_X13_unsureAt nt unsureF placeF x) hN uN) unsureF placeF x t) = (nI b) from hb2] at hl
                  refine lv_aload_n hx hb dX13_weigh_75 rfl (lv_at hl 0 rfl) ?_
                  refine lv_iload hx hb dX13_weigh_76 (lv_at hl 4 rfl) ?_
                  refine q_rdV (As := [.int (nI t)]) (rest := []) (c_X13_knownByN l D cB cI cJ ad n ML36 mb nt nc np nq (upd mv 2 0) toldF limitF kindF heavyF unsureF wideF hotF placeF hN uN t x h_mb h_mb_3 h_mb_8 h_mb_12 h_mb_13 h_mb_14 h_mb_15 h_mb_17 h_mb_18 mL36_0 ((fL36 (mb + 3) (by omega)).trans m_mb_3) ((fL36 (mb + 8) (by omega)).trans m_mb_8) ((fL36 (mb + 12) (by omega)).trans m_mb_12) ((fL36 (mb + 13) (by omega)).trans m_mb_13) ((fL36 (mb + 14) (by omega)).trans m_mb_14) ((fL36 (mb + 15) (by omega)).trans m_mb_15) ((fL36 (mb + 17) (by omega)).trans m_mb_17) ((fL36 (mb + 18) (by omega)).trans m_mb_18) k0 hnp k1 hnc k2 hnt k3 hnq (h9) (c_64) (hv_10) (hu) (hwu)) X hK hP hS hl.1 rfl gX13_weigh_X13_knownBy yd_X13_knownBy ⟨Nat.le_of_ble_eq_true rfl, Nat.le_of_ble_eq_true rfl⟩ h_mb mL36_0 (ci := 12) rfl rfl (Nat.le_of_ble_eq_true rfl) ⟨Nat.zero_le _, Nat.zero_le _⟩ dX13_weigh_78 ?_
                  refine lv_iconst (v := 2) hx hb dX13_weigh_81 (by decide) ?_
                  refine lv_aload_n hx hb dX13_weigh_82 rfl (lv_at hl 0 rfl) ?_
                  refine q_get (v := .ref (ad (mb + 14))) (fs := modF ad mb ((upd mv 2 0))) X hK hP fX13_weigh_72 h_mb mL36_0 rfl dX13_weigh_83 ?_
                  refine lv_iload_n hx hb dX13_weigh_86 rfl (lv_at hl 3 rfl) ?_
                  refine q_ialdN (f := unsureF) (k := 24) X hK hP b h_mb_14 ((fL36 (mb + 14) (by omega)).trans m_mb_14) (by omega) (by decide) dX13_weigh_87 ?_
                  refine lv_imul hx hb dX13_weigh_88 ?_
                  refine lv_iconst (v := 1) hx hb dX13_weigh_89 (by decide) ?_
                  refine lv_iadd hx hb dX13_weigh_90 ?_
                  refine lv_imul hx hb dX13_weigh_91 ?_
                  refine lv_aload_n hx hb dX13_weigh_92 rfl (lv_at hl 0 rfl) ?_
                  refine lv_iload_n hx hb dX13_weigh_93 rfl (lv_at hl 3 rfl) ?_
                  refine q_rdV (As := [.int (nI b)]) (rest := [.int (((kbT (limitF x.toNatClampNeg) (s_X13_sumAt nt kindF heavyF wideF hotF placeF x 1) (s_X13_unsureAt nt unsureF placeF x) hN uN) t) * ((2 * (unsureF b)) + 1))]) (c_X13_knownByN l D cB cI cJ ad n ML36 mb nt nc np nq (upd mv 2 0) toldF limitF kindF heavyF unsureF wideF hotF placeF hN uN b x h_mb h_mb_3 h_mb_8 h_mb_12 h_mb_13 h_mb_14 h_mb_15 h_mb_17 h_mb_18 mL36_0 ((fL36 (mb + 3) (by omega)).trans m_mb_3) ((fL36 (mb + 8) (by omega)).trans m_mb_8) ((fL36 (mb + 12) (by omega)).trans m_mb_12) ((fL36 (mb + 13) (by omega)).trans m_mb_13) ((fL36 (mb + 14) (by omega)).trans m_mb_14) ((fL36 (mb + 15) (by omega)).trans m_mb_15) ((fL36 (mb + 17) (by omega)).trans m_mb_17) ((fL36 (mb + 18) (by omega)).trans m_mb_18) k0 hnp k1 hnc k2 hnt k3 hnq (by omega) (hb3) (hv_10) (hu) (hwu)) X hK hP hS hl.1 rfl gX13_weigh_X13_knownBy yd_X13_knownBy ⟨Nat.le_of_ble_eq_true rfl, Nat.le_of_ble_eq_true rfl⟩ h_mb mL36_0 (ci := 12) rfl rfl (Nat.le_of_ble_eq_true rfl) ⟨Nat.zero_le _, Nat.zero_le _⟩ dX13_weigh_94 ?_
                  refine lv_iconst (v := 2) hx hb dX13_weigh_97 (by decide) ?_
                  refine lv_aload_n hx hb dX13_weigh_98 rfl (lv_at hl 0 rfl) ?_
                  refine q_get (v := .ref (ad (mb + 14))) (fs := modF ad mb ((upd mv 2 0))) X hK hP fX13_weigh_72 h_mb mL36_0 rfl dX13_weigh_99 ?_
                  refine lv_iload hx hb dX13_weigh_102 (lv_at hl 4 rfl) ?_
                  refine q_ialdN (f := unsureF) (k := 24) X hK hP t h_mb_14 ((fL36 (mb + 14) (by omega)).trans m_mb_14) (by omega) (by decide) dX13_weigh_104 ?_
                  refine lv_imul hx hb dX13_weigh_105 ?_
                  refine lv_iconst (v := 1) hx hb dX13_weigh_106 (by decide) ?_
                  refine lv_iadd hx hb dX13_weigh_107 ?_
                  refine lv_imul hx hb dX13_weigh_108 ?_
                  refine lv_icmp_le (tgt := 115) hx hb dX13_weigh_109 (by decide) (fun c_109 => ?_) (fun c_109 => ?_)
                  · skip
                    refine lv_iinc (v := ((nI t) + 1)) (lv' := [(4, .int ((nI t) + 1)), (0, .ref (ad mb)), (1, .int x), (2, .int y), (3, .int (nI b))]) hx hb dX13_weigh_115 hl (k := 4) rfl rfl (by decide) rfl (fun ls hl => ?_)
                    refine lv_goto (tgt := 36) hx hb dX13_weigh_118 (by decide) ?_
                    exact ih_36 (t + 1) (nI b) ((nI t) + 1) (by omega) (by omega) (by exact Or.inr c_53) (by rw [wbS]; first | (rw [if_neg c_64]; done) | (rw [if_pos c_64, if_pos c_72]; done) | (rw [if_pos c_64, if_neg c_72, hb2, nI_clamp (by omega), if_pos c_109]; done) | (rw [if_pos c_64, if_neg c_72, hb2, nI_clamp (by omega), if_neg c_109]; done)) (by exact nI_1 _) _ _ _ mL36_0 (fun q n0 => (fL36 q n0)) hP hS ls (lv_sub hl [1, 2, 3, 4, 0] rfl)
                  · skip
                    refine lv_iload hx hb dX13_weigh_112 (lv_at hl 4 rfl) ?_
                    refine lv_istore_n (lv' := [(3, .int (nI t)), (0, .ref (ad mb)), (1, .int x), (2, .int y), (4, .int (nI t))]) hx hb dX13_weigh_114 rfl hl (by decide) rfl (fun ls hl => ?_)
                    refine lv_iinc (v := ((nI t) + 1)) (lv' := [(4, .int ((nI t) + 1)), (3, .int (nI t)), (0, .ref (ad mb)), (1, .int x), (2, .int y)]) hx hb dX13_weigh_115 hl (k := 4) rfl rfl (by decide) rfl (fun ls hl => ?_)
                    refine lv_goto (tgt := 36) hx hb dX13_weigh_118 (by decide) ?_
                    exact ih_36 (t + 1) (nI t) ((nI t) + 1) (by omega) (by omega) (by exact Or.inr c_53) (by rw [wbS]; first | (rw [if_neg c_64]; done) | (rw [if_pos c_64, if_pos c_72]; done) | (rw [if_pos c_64, if_neg c_72, hb2, nI_clamp (by omega), if_pos c_109]; done) | (rw [if_pos c_64, if_neg c_72, hb2, nI_clamp (by omega), if_neg c_109]; done)) (by exact nI_1 _) _ _ _ mL36_0 (fun q n0 => (fL36 q n0)) hP hS ls (lv_sub hl [2, 3, 4, 1, 0] rfl)
              · skip
                refine lv_goto (tgt := 115) hx hb dX13_weigh_67 (by decide) ?_
                refine lv_iinc (v := ((nI t) + 1)) (lv' := [(4, .int ((nI t) + 1)), (0, .ref (ad mb)), (1, .int x), (2, .int y), (3, .int (wbS (kbT (limitF x.toNatClampNeg) (s_X13_sumAt nt kindF heavyF wideF hotF placeF x 1) (s_X13_unsureAt nt unsureF placeF x) hN uN) unsureF placeF x t))]) hx hb dX13_weigh_115 hl (k := 4) rfl rfl (by decide) rfl (fun ls hl => ?_)
                refine lv_goto (tgt := 36) hx hb dX13_weigh_118 (by decide) ?_
                exact ih_36 (t + 1) (wbS (kbT (limitF x.toNatClampNeg) (s_X13_sumAt nt kindF heavyF wideF hotF placeF x 1) (s_X13_unsureAt nt unsureF placeF x) hN uN) unsureF placeF x t) ((nI t) + 1) (by omega) (by omega) (by exact Or.inr c_53) (by rw [wbS]; first | (rw [if_neg c_64]; done) | (rw [if_pos c_64, if_pos c_72]; done) | (rw [if_pos c_64, if_neg c_72, hb2, nI_clamp (by omega), if_pos c_109]; done) | (rw [if_pos c_64, if_neg c_72, hb2, nI_clamp (by omega), if_neg c_109]; done)) (by exact nI_1 _) _ _ _ mL36_0 (fun q n0 => (fL36 q n0)) hP hS ls (lv_sub hl [1, 2, 3, 4, 0] rfl)
      exact loop_36 (nt + 1) 0 (-1) 0 (by omega) (by omega) (by exact Or.inl rfl) (by rfl) (by rfl) _ _ _ (va_up_self M mb (.inr (12, modF ad mb (upd mv 2 0)))) (fun q n0 => (va_up_ne _ _ n0)) hP hS ls (lv_sub hl [2, 3, 4, 1, 0] rfl)
    · skip
      refine lv_aload_n hx hb dX13_weigh_25 rfl (lv_at hl 0 rfl) ?_
      refine lv_iconst (v := 1) hx hb dX13_weigh_26 (by decide) ?_
      refine q_wrVi (As := [.int 1]) (rest := []) (c_X13_fail l D cB cI cJ ad n (va_up M mb (.inr (12, modF ad mb (upd mv 2 0)))) hI mb (upd mv 2 0) 1 h_mb (va_up_self M mb (.inr (12, modF ad mb (upd mv 2 0)))) ) X hK hP hS hl.1 rfl gX13_weigh_X13_fail yd_X13_fail ⟨Nat.le_of_ble_eq_true rfl, Nat.le_of_ble_eq_true rfl⟩ h_mb (va_up_self M mb (.inr (12, modF ad mb (upd mv 2 0)))) (ci := 12) rfl rfl (Nat.le_of_ble_eq_true rfl) ⟨Nat.zero_le _, Nat.zero_le _⟩ dX13_weigh_27 (fun r11 M10 H locs hp9 hP hS => ?_)
      obtain ⟨er14, g12, fr13⟩ := hp9
      replace er14 := er14.symm
      subst er14
      exact q_wzret X hr hlocks hP hS (rfl) ⟨(by first | (rw [if_pos c_10]; done) | (rw [if_neg c_10, if_pos c_22]; done)), (by refine g12.trans (modC ?_); (first | rw [if_pos c_10] | rw [if_neg c_10, if_pos c_22]); funext j9; simp only [upd]; split <;> rfl), (fun q n0 => ((fr13 q n0).trans (va_up_ne _ _ n0)))⟩ dX13_weigh_30
end
