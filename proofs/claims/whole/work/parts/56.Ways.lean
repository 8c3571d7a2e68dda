/-! PoundsOverModel: in how many ways a case goes *-/
noncomputable section
def isN (f : Nat → Int64) (k i0 : Nat) : Nat → Int64
  | 0 => 0
  | t + 1 => isN f k i0 t + f (k - (i0 + t))
def isV (n more : Nat) (f : Nat → Int64) (k : Nat) : Int64 := isN f k (k + 1 - n) (min more (k + 1) - (k + 1 - n))
def nxS (n more : Nat) (f g : Nat → Int64) : Nat → (Nat → Int64)
  | 0 => g
  | k + 1 => vp_updL (nxS n more f g k) k (isV n more f k)
def cpL (n : Nat) (f g : Nat → Int64) : Nat → Int64 := fun q => if q < n then g q else f q
theorem cpL_0 (f g : Nat → Int64) : cpL 0 f g = f := by funext q; exact if_neg (Nat.not_lt_zero q)
theorem cpL_s (n : Nat) (f g : Nat → Int64) : vp_updL (cpL n f g) n (g n) = cpL (n + 1) f g := by
  funext q
  simp only [vp_updL, cpL]
  (repeat' split) <;> first | rfl | (exfalso; omega) | (subst_vars; rfl)
theorem upL_up (f : Nat → Int64) (k : Nat) (a b : Int64) : vp_updL (vp_updL f k a) k b = vp_updL f k b := by
  funext q
  simp only [vp_updL]
  split <;> rfl
theorem upL_at (f : Nat → Int64) (k : Nat) (a : Int64) : vp_updL f k a k = a := if_pos rfl
def nWS (pl : Nat → Int32) (x : Int32) (uN : Nat → Nat) : Nat → Nat
  | 0 => 1
  | t + 1 => if pl t = x then nWS pl x uN t + 2 * uN t else nWS pl x uN t
def rxS (pl : Nat → Int32) (x : Int32) (uN : Nat → Nat) (f g : Nat → Int64) : Nat → (Nat → Int64) × (Nat → Int64)
  | 0 => (vp_updL f 0 1, g)
  | t + 1 => if pl t = x then (cpL (nWS pl x uN t + 2 * uN t) (rxS pl x uN f g t).1 (nxS (nWS pl x uN t) (2 * uN t + 1) (rxS pl x uN f g t).1 (rxS pl x uN f g t).2 (nWS pl x uN t + 2 * uN t)), nxS (nWS pl x uN t) (2 * uN t + 1) (rxS pl x uN f g t).1 (rxS pl x uN f g t).2 (nWS pl x uN t + 2 * uN t)) else rxS pl x uN f g t
def wWS (pl : Nat → Int32) (x : Int32) (uN : Nat → Nat) : Nat → Int64
  | 0 => 1
  | t + 1 => if pl t = x then wWS pl x uN t * (nI (2 * uN t + 1)).toInt64 else wWS pl x uN t
theorem nWS_b {pl : Nat → Int32} {x : Int32} {uN : Nat → Nat} {nt : Nat} (hu : ∀ t : Nat, t < nt → uN t ≤ 9) : ∀ t : Nat, t ≤ nt → 1 ≤ nWS pl x uN t ∧ nWS pl x uN t ≤ 1 + 18 * t
  | 0, _ => ⟨Nat.le_refl _, Nat.le_refl _⟩
  | t + 1, h => by
    have ih := nWS_b (pl := pl) (x := x) hu t (by omega)
    have := hu t (by omega)
    rw [nWS]
    split <;> omega
def gwS2 (li le : Int32) (f : Nat → Int64) : Nat → Nat → Int64 → Int64
  | 0, _, a => a
  | r + 1, k, a => if li < le + nI k then a else gwS2 li le f r (k + 1) (a + f k)
theorem mx_i {k n : Nat} (hk : k < 2 ^ 29) (hn : n < 2 ^ 29) : imax 0 (nI k - nI n + 1) = nI (k + 1 - n + 0) := by
  unfold imax
  by_cases h : n ≤ k
  · rw [pk_sub h, nI_1, if_pos (by have := nI_lt (a := 0) (b := k - n + 1) (by omega) (by omega); exact this), show k + 1 - n + 0 = k - n + 1 by omega]
  · have e : nI k - nI n + 1 = nI (k + 1) - nI n := by rw [← nI_1, Int32.sub_eq_add_neg, Int32.sub_eq_add_neg, Int32.add_assoc, Int32.add_assoc, Int32.add_comm (-nI n)]
    rw [e, show k + 1 - n + 0 = 0 by omega]
    by_cases h2 : k + 1 = n
    · rw [h2, Int32.sub_self]; rfl
    · rw [if_neg (fun q => absurd (pk_sneg (by omega) (show k + 1 < n by omega)) (Int32.not_lt.mpr (Int32.le_of_lt q)))]; rfl
set_option maxRecDepth 20000 in
theorem fX13_waysOf_133 : FL wsX13_waysOf RX13 133 12 49 := ⟨RX13, TX13, 67, rfl, by decide +kernel, by decide, by decide +kernel⟩
set_option maxRecDepth 20000 in
theorem fX13_waysOf_40 : FL wsX13_waysOf RX13 40 12 3 := ⟨RX13, TX13, 67, rfl, by decide +kernel, by decide, by decide +kernel⟩
set_option maxRecDepth 20000 in
theorem fX13_waysOf_56 : FL wsX13_waysOf RX13 56 12 8 := ⟨RX13, TX13, 67, rfl, by decide +kernel, by decide, by decide +kernel⟩
set_option maxRecDepth 20000 in
theorem fX13_waysOf_84 : FL wsX13_waysOf RX13 84 12 18 := ⟨RX13, TX13, 67, rfl, by decide +kernel, by decide, by decide +kernel⟩
set_option maxRecDepth 20000 in
theorem fX13_waysOf_72 : FL wsX13_waysOf RX13 72 12 14 := ⟨RX13, TX13, 67, rfl, by decide +kernel, by decide, by decide +kernel⟩
set_option maxRecDepth 20000 in
theorem fX13_waysOf_137 : FL wsX13_waysOf RX13 137 12 50 := ⟨RX13, TX13, 67, rfl, by decide +kernel, by decide, by decide +kernel⟩
set_option maxHeartbeats 4000000 in
set_option maxRecDepth 100000 in
theorem c_X13_waysOf (l : Launch) (D : va_G) (cB cI cJ : ClassId) (ad : Nat → Nat) (n : Nat) (M : Nat → va_E) (hI : ipI ad n) (mb : Nat) (nt : Nat) (nc : Nat) (np : Nat) (nq : Nat) (mv : Nat → Int32) (toldF : Nat → Int32) (limitF : Nat → Int32) (kindF : Nat → Int32) (heavyF : Nat → Int32) (unsureF : Nat → Int32) (wideF : Nat → Int32) (hotF : Nat → Int32) (placeF : Nat → Int32) (rowsF : Nat → Int64) (rowsNextF : Nat → Int64) (uN : Nat → Nat) (x : Int32) (y : Int32) (h_mb : mb < n) (h_mb_3 : mb + 3 < n) (h_mb_8 : mb + 8 < n) (h_mb_12 : mb + 12 < n) (h_mb_13 : mb + 13 < n) (h_mb_14 : mb + 14 < n) (h_mb_15 : mb + 15 < n) (h_mb_17 : mb + 17 < n) (h_mb_18 : mb + 18 < n) (h_mb_32 : mb + 32 < n) (h_mb_33 : mb + 33 < n) (m_mb : M mb = .inr (12, modF ad mb mv)) (m_mb_3 : M (mb + 3) = .inl (cI, 14, .inl toldF)) (m_mb_8 : M (mb + 8) = .inl (cI, 10, .inl limitF)) (m_mb_12 : M (mb + 12) = .inl (cI, 24, .inl kindF)) (m_mb_13 : M (mb + 13) = .inl (cI, 24, .inl heavyF)) (m_mb_14 : M (mb + 14) = .inl (cI, 24, .inl unsureF)) (m_mb_15 : M (mb + 15) = .inl (cI, 24, .inl wideF)) (m_mb_17 : M (mb + 17) = .inl (cI, 24, .inl hotF)) (m_mb_18 : M (mb + 18) = .inl (cI, 24, .inl placeF)) (m_mb_32 : M (mb + 32) = .inl (cJ, 220, .inr (.inl rowsF))) (m_mb_33 : M (mb + 33) = .inl (cJ, 220, .inr (.inl rowsNextF))) (k0 : toldF 0 = nI np) (hnp : np ≤ 4) (k1 : toldF 1 = nI nc) (hnc : nc ≤ 5) (k2 : toldF 2 = nI nt) (hnt : nt ≤ 12) (k3 : toldF 3 = nI nq) (hnq : nq ≤ 6) (vx : vp_in x 10) (hu : ∀ t : Nat, t < nt → unsureF t = nI (uN t) ∧ uN t ≤ 9) : cWl l D cB cI cJ ad n M yX13_waysOf wsX13_waysOf 1 25 [.ref (ad mb), .int x, .int y] (fun r M' => r = (if y = (0 : Int32) then gwS2 (limitF x.toNatClampNeg) ((s_X13_sumAt nt kindF heavyF wideF hotF placeF x 1) - (s_X13_unsureAt nt unsureF placeF x)) (rxS placeF x uN rowsF rowsNextF nt).1 (nWS placeF x uN nt) 0 0 else wWS placeF x uN nt) ∧ M' (mb + 32) = .inl (cJ, 220, .inr (.inl ((rxS placeF x uN rowsF rowsNextF nt).1))) ∧ M' (mb + 33) = .inl (cJ, 220, .inr (.inl ((rxS placeF x uN rowsF rowsNextF nt).2))) ∧ ∀ q : Nat, q ≠ mb + 32 → q ≠ mb + 33 → M' q = M q) := by
  refine q_body (cc := cX13_waysOf) (maxL := 10) (ret := (some .long)) (by decide) rfl (Nat.le_of_ble_eq_true rfl) ?_
  intro p e s m args below meth c ls X hr hlocks hK hP hl
  obtain ⟨hx, hb, hml, hown, hts⟩ := id X
  have hS : va_S (ipA ad n) s.heap s.heap [] := va_S.rf
  have hl : lv_has ls 10 [(0, .ref (ad mb)), (1, .int x), (2, .int y)] := hl
  have hub : ∀ t : Nat, t < nt → uN t ≤ 9 := fun t h => (hu t h).2
  refine lv_iconst (v := 1) hx hb dX13_waysOf_0 (by decide) ?_
  refine lv_istore_n (lv' := [(3, .int 1), (0, .ref (ad mb)), (1, .int x), (2, .int y)]) hx hb dX13_waysOf_1 rfl hl (by decide) rfl (fun ls hl => ?_)
  refine lv_aload_n hx hb dX13_waysOf_2 rfl (lv_at hl 1 rfl) ?_
  refine q_get (v := .ref (ad (mb + 32))) (fs := modF ad mb mv) X hK hP fX13_waysOf_133 h_mb m_mb rfl dX13_waysOf_3 ?_
  refine lv_iconst (v := 0) hx hb dX13_waysOf_6 (by decide) ?_
  refine lv_lconst (v := 1) hx hb dX13_waysOf_7 (by decide) ?_
  refine q_lastN (f := rowsF) (k := 220) X hK hI hP hS 0 h_mb_32 m_mb_32 (by decide) (by decide) dX13_waysOf_8 (fun H locs hP hS => ?_)
  refine lv_lconst (v := 1) hx hb dX13_waysOf_9 (by decide) ?_
  refine lv_lstore (lv' := [(4, .long 1), (3, .int 1), (0, .ref (ad mb)), (1, .int x), (2, .int y)]) hx hb dX13_waysOf_10 hl (by decide) rfl (fun ls hl => ?_)
  refine lv_iconst (v := 0) hx hb dX13_waysOf_12 (by decide) ?_
  refine lv_istore (lv' := [(6, .int 0), (4, .long 1), (3, .int 1), (0, .ref (ad mb)), (1, .int x), (2, .int y)]) hx hb dX13_waysOf_13 hl (by decide) rfl (fun ls hl => ?_)
  have loop_15 : ∀ (fuel : Nat) (t : Nat) (x3 : Int32) (x4 : Int64) (x6 : Int32), nt - t < fuel → (t ≤ nt) → x3 = nI (nWS placeF x uN t) → x4 = wWS placeF x uN t → x6 = nI t → ∀ (ML15 : Nat → va_E) (H : Heap) (locs : List Loc), ML15 (mb + 32) = .inl (cJ, 220, .inr (.inl ((rxS placeF x uN rowsF rowsNextF t).1))) → ML15 (mb + 33) = .inl (cJ, 220, .inr (.inl ((rxS placeF x uN rowsF rowsNextF t).2))) → (∀ q : Nat, q ≠ mb + 32 → q ≠ mb + 33 → ML15 q = M q) → va_P D vwCl (ip ad n ML15) H → va_S (ipA ad n) s.heap H locs → ∀ (ls : Array Slot), lv_has ls 10 [(0, .ref (ad mb)), (1, .int x), (2, .int y), (3, .int x3), (4, .long x4), (6, .int x6)] → W p l e (rmOf 1 25) s m args below meth c H locs 0 0 (MQ below (va_Ql (fun r M' => r = (if y = (0 : Int32) then gwS2 (limitF x.toNatClampNeg) ((s_X13_sumAt nt kindF heavyF wideF hotF placeF x 1) - (s_X13_unsureAt nt unsureF placeF x)) (rxS placeF x uN rowsF rowsNextF nt).1 (nWS placeF x uN nt) 0 0 else wWS placeF x uN nt) ∧ M' (mb + 32) = .inl (cJ, 220, .inr (.inl ((rxS placeF x uN rowsF rowsNextF nt).1))) ∧ M' (mb + 33) = .inl (cJ, 220, .inr (.inl ((rxS placeF x uN rowsF rowsNextF nt).2))) ∧ ∀ q : Nat, q ≠ mb + 32 → q ≠ mb + 33 → M' q = M q) (fun M' t => va_P D vwCl (ip ad n M') t.heap) (ipA ad n)) args s 0 0 (ipA ad n)) (F0 m 15 ls []) := by
    intro fuel
    induction fuel with
    | zero =>
      intro t x3 x4 x6 hz
      exact absurd hz (Nat.not_lt_zero _)
    | succ fuel ih_15 =>
      intro t x3 x4 x6 hz_15 ht e3 e4 e6 ML15 H locs mL15_0 mL15_1 fL15 hP hS ls hl
      subst e3
      subst e4
      subst e6
      have hnb := nWS_b (pl := placeF) (x := x) hub t ht
      skip
      refine lv_iload hx hb dX13_waysOf_15 (lv_at hl 5 rfl) ?_
      refine lv_aload_n hx hb dX13_waysOf_17 rfl (lv_at hl 0 rfl) ?_
      refine q_get (v := .ref (ad (mb + 3))) (fs := modF ad mb mv) X hK hP fX13_waysOf_40 h_mb ((fL15 mb (by omega) (by omega)).trans m_mb) rfl dX13_waysOf_18 ?_
      refine lv_iconst (v := 2) hx hb dX13_waysOf_21 (by decide) ?_
      refine q_ialdN (f := toldF) (k := 14) X hK hP 2 h_mb_3 ((fL15 (mb + 3) (by omega) (by omega)).trans m_mb_3) (by decide) (by decide) dX13_waysOf_22 ?_
      refine lv_icmp_ge (tgt := 183) hx hb dX13_waysOf_23 (by decide) (fun c_23 => ?_) (fun c_23 => ?_)
      · skip
        rw [k2] at c_23; have h9 : t = nt := eq_of_le c_23 (by omega) ht
        rw [show nI (nWS placeF x uN t) = (nI (nWS placeF x uN nt)) from (by rw [h9])] at hl
        rw [show wWS placeF x uN t = (wWS placeF x uN nt) from (by rw [h9])] at hl
        have g3 : ML15 (mb + 32) = .inl (cJ, 220, .inr (.inl ((rxS placeF x uN rowsF rowsNextF nt).1))) := by rw [← h9]; exact mL15_0
        have g4 : ML15 (mb + 33) = .inl (cJ, 220, .inr (.inl ((rxS placeF x uN rowsF rowsNextF nt).2))) := by rw [← h9]; exact mL15_1
        refine lv_iload_n hx hb dX13_waysOf_183 rfl (lv_at hl 2 rfl) ?_
        refine lv_if_eq (tgt := 190) hx hb dX13_waysOf_184 (by decide) (fun c_184 => ?_) (fun c_184 => ?_)
        · skip
          refine lv_aload_n hx hb dX13_waysOf_190 rfl (lv_at hl 0 rfl) ?_
          refine lv_iload_n hx hb dX13_waysOf_191 rfl (lv_at hl 1 rfl) ?_
          refine lv_iconst (v := 1) hx hb dX13_waysOf_192 (by decide) ?_
          refine q_rdV (As := [.int x, .int 1]) (rest := []) (c_X13_sumAt l D cB cI cJ ad n ML15 mb nt nc np nq mv toldF kindF heavyF wideF hotF placeF x 1 h_mb h_mb_3 h_mb_12 h_mb_13 h_mb_15 h_mb_17 h_mb_18 ((fL15 mb (by omega) (by omega)).trans m_mb) ((fL15 (mb + 3) (by omega) (by omega)).trans m_mb_3) ((fL15 (mb + 12) (by omega) (by omega)).trans m_mb_12) ((fL15 (mb + 13) (by omega) (by omega)).trans m_mb_13) ((fL15 (mb + 15) (by omega) (by omega)).trans m_mb_15) ((fL15 (mb + 17) (by omega) (by omega)).trans m_mb_17) ((fL15 (mb + 18) (by omega) (by omega)).trans m_mb_18) k0 hnp k1 hnc k2 hnt k3 hnq) X hK hP hS hl.1 rfl gX13_waysOf_X13_sumAt yd_X13_sumAt ⟨Nat.le_of_ble_eq_true rfl, Nat.le_of_ble_eq_true rfl⟩ h_mb ((fL15 mb (by omega) (by omega)).trans m_mb) (ci := 12) rfl rfl (Nat.le_of_ble_eq_true rfl) ⟨Nat.zero_le _, Nat.zero_le _⟩ dX13_waysOf_193 ?_
          refine lv_aload_n hx hb dX13_waysOf_196 rfl (lv_at hl 0 rfl) ?_
          refine lv_iload_n hx hb dX13_waysOf_197 rfl (lv_at hl 1 rfl) ?_
          refine q_rdV (As := [.int x]) (rest := [.int (s_X13_sumAt nt kindF heavyF wideF hotF placeF x 1)]) (c_X13_unsureAt l D cB cI cJ ad n ML15 mb nt nc np nq mv toldF unsureF placeF x h_mb h_mb_3 h_mb_14 h_mb_18 ((fL15 mb (by omega) (by omega)).trans m_mb) ((fL15 (mb + 3) (by omega) (by omega)).trans m_mb_3) ((fL15 (mb + 14) (by omega) (by omega)).trans m_mb_14) ((fL15 (mb + 18) (by omega) (by omega)).trans m_mb_18) k0 hnp k1 hnc k2 hnt k3 hnq) X hK hP hS hl.1 rfl gX13_waysOf_X13_unsureAt yd_X13_unsureAt ⟨Nat.le_of_ble_eq_true rfl, Nat.le_of_ble_eq_true rfl⟩ h_mb ((fL15 mb (by omega) (by omega)).trans m_mb) (ci := 12) rfl rfl (Nat.le_of_ble_eq_true rfl) ⟨Nat.zero_le _, Nat.zero_le _⟩ dX13_waysOf_198 ?_
          refine lv_isub hx hb dX13_waysOf_201 ?_
          refine lv_istore (lv' := [(6, .int ((s_X13_sumAt nt kindF heavyF wideF hotF placeF x 1) - (s_X13_unsureAt nt unsureF placeF x))), (0, .ref (ad mb)), (1, .int x), (2, .int y), (3, .int (nI (nWS placeF x uN nt))), (4, .long (wWS placeF x uN nt))]) hx hb dX13_waysOf_202 hl (by decide) rfl (fun ls hl => ?_)
          refine lv_lconst (v := 0) hx hb dX13_waysOf_204 (by decide) ?_
          refine lv_lstore (lv' := [(7, .long 0), (6, .int ((s_X13_sumAt nt kindF heavyF wideF hotF placeF x 1) - (s_X13_unsureAt nt unsureF placeF x))), (0, .ref (ad mb)), (1, .int x), (2, .int y), (3, .int (nI (nWS placeF x uN nt))), (4, .long (wWS placeF x uN nt))]) hx hb dX13_waysOf_205 hl (by decide) rfl (fun ls hl => ?_)
          refine lv_iconst (v := 0) hx hb dX13_waysOf_207 (by decide) ?_
          refine lv_istore (lv' := [(9, .int 0), (7, .long 0), (6, .int ((s_X13_sumAt nt kindF heavyF wideF hotF placeF x 1) - (s_X13_unsureAt nt unsureF placeF x))), (0, .ref (ad mb)), (1, .int x), (2, .int y), (3, .int (nI (nWS placeF x uN nt))), (4, .long (wWS placeF x uN nt))]) hx hb dX13_waysOf_208 hl (by decide) rfl (fun ls hl => ?_)
          have loop_210 : ∀ (fuel : Nat) (k : Nat) (a9 : Int64) (x9 : Int32), nWS placeF x uN nt - k < fuel → (k ≤ nWS placeF x uN nt) → (gwS2 (limitF x.toNatClampNeg) ((s_X13_sumAt nt kindF heavyF wideF hotF placeF x 1) - (s_X13_unsureAt nt unsureF placeF x)) (rxS placeF x uN rowsF rowsNextF nt).1 (nWS placeF x uN nt - k) k a9 = gwS2 (limitF x.toNatClampNeg) ((s_X13_sumAt nt kindF heavyF wideF hotF placeF x 1) - (s_X13_unsureAt nt unsureF placeF x)) (rxS placeF x uN rowsF rowsNextF nt).1 (nWS placeF x uN nt) 0 0) → x9 = nI k → ∀ (ML210 : Nat → va_E) (H : Heap) (locs : List Loc), ML210 (mb + 32) = .inl (cJ, 220, .inr (.inl ((rxS placeF x uN rowsF rowsNextF nt).1))) → ML210 (mb + 33) = .inl (cJ, 220, .inr (.inl ((rxS placeF x uN rowsF rowsNextF nt).2))) → (∀ q : Nat, q ≠ mb + 32 → q ≠ mb + 33 → ML210 q = M q) → va_P D vwCl (ip ad n ML210) H → va_S (ipA ad n) s.heap H locs → ∀ (ls : Array Slot), lv_has ls 10 [(0, .ref (ad mb)), (1, .int x), (3, .int (nI (nWS placeF x uN nt))), (6, .int ((s_X13_sumAt nt kindF heavyF wideF hotF placeF x 1) - (s_X13_unsureAt nt unsureF placeF x))), (7, .long a9), (9, .int x9)] → W p l e (rmOf 1 25) s m args below meth c H locs 0 0 (MQ below (va_Ql (fun r M' => r = (if y = (0 : Int32) then gwS2 (limitF x.toNatClampNeg) ((s_X13_sumAt nt kindF heavyF wideF hotF placeF x 1) - (s_X13_unsureAt nt unsureF placeF x)) (rxS placeF x uN rowsF rowsNextF nt).1 (nWS placeF x uN nt) 0 0 else wWS placeF x uN nt) ∧ M' (mb + 32) = .inl (cJ, 220, .inr (.inl ((rxS placeF x uN rowsF rowsNextF nt).1))) ∧ M' (mb + 33) = .inl (cJ, 220, .inr (.inl ((rxS placeF x uN rowsF rowsNextF nt).2))) ∧ ∀ q : Nat, q ≠ mb + 32 → q ≠ mb + 33 → M' q = M q) (fun M' t => va_P D vwCl (ip ad n M') t.heap) (ipA ad n)) args s 0 0 (ipA ad n)) (F0 m 210 ls []) := by
            intro fuel
            induction fuel with
            | zero =>
              intro k a9 x9 hz
              exact absurd hz (Nat.not_lt_zero _)
            | succ fuel ih_210 =>
              intro k a9 x9 hz_210 hk he e9 ML210 H locs mL210_0 mL210_1 fL210 hP hS ls hl
              subst e9
              have hnb2 := nWS_b (pl := placeF) (x := x) hub nt (Nat.le_refl _)
              skip
              refine lv_iload hx hb dX13_waysOf_210 (lv_at hl 5 rfl) ?_
              refine lv_iload_n hx hb dX13_waysOf_212 rfl (lv_at hl 2 rfl) ?_
              refine lv_icmp_ge (tgt := 248) hx hb dX13_waysOf_213 (by decide) (fun c_213 => ?_) (fun c_213 => ?_)
              · skip
                have h8 : k = nWS placeF x uN nt := eq_of_le c_213 (by omega) hk
                refine lv_lload hx hb dX13_waysOf_248 (lv_at hl 4 rfl) ?_
                exact q_wlret X hr hlocks hP hS ⟨(by rw [if_pos c_184, ← he]; first | (rw [h8, Nat.sub_self]; rfl) | (obtain ⟨r9, hr9⟩ : ∃ r9, nWS placeF x uN nt - k = r9 + 1 := ⟨nWS placeF x uN nt - k - 1, by omega⟩; rw [hr9, gwS2, if_pos {c227}])), mL210_0, mL210_1, (fun q n0 n1 => (fL210 q n0 n1))⟩ dX13_waysOf_250
              · skip
                have h8 := lt_of_nlt c_213 (by omega) hk
                refine lv_iload hx hb dX13_waysOf_216 (lv_at hl 3 rfl) ?_
                refine lv_iload hx hb dX13_waysOf_218 (lv_at hl 5 rfl) ?_
                refine lv_iadd hx hb dX13_waysOf_220 ?_
                refine lv_aload_n hx hb dX13_waysOf_221 rfl (lv_at hl 0 rfl) ?_
                refine q_get (v := .ref (ad (mb + 8))) (fs := modF ad mb mv) X hK hP fX13_waysOf_56 h_mb ((fL210 mb (by omega) (by omega)).trans m_mb) rfl dX13_waysOf_222 ?_
                refine lv_iload_n hx hb dX13_waysOf_225 rfl (lv_at hl 1 rfl) ?_
                refine q_iald (f := limitF) (k := 10) X hK hP h_mb_8 ((fL210 (mb + 8) (by omega) (by omega)).trans m_mb_8) (by assumption) dX13_waysOf_226 ?_
                refine lv_icmp_gt (tgt := 248) hx hb dX13_waysOf_227 (by decide) (fun c_227 => ?_) (fun c_227 => ?_)
                · skip
                  refine lv_lload hx hb dX13_waysOf_248 (lv_at hl 4 rfl) ?_
                  exact q_wlret X hr hlocks hP hS ⟨(by rw [if_pos c_184, ← he]; first | (rw [h8, Nat.sub_self]; rfl) | (obtain ⟨r9, hr9⟩ : ∃ r9, nWS placeF x uN nt - k = r9 + 1 := ⟨nWS placeF x uN nt - k - 1, by omega⟩; rw [hr9, gwS2, if_pos c_227])), mL210_0, mL210_1, (fun q n0 n1 => (fL210 q n0 n1))⟩ dX13_waysOf_250
                · skip
                  refine lv_lload hx hb dX13_waysOf_230 (lv_at hl 4 rfl) ?_
                  refine lv_aload_n hx hb dX13_waysOf_232 rfl (lv_at hl 0 rfl) ?_
                  refine q_get (v := .ref (ad (mb + 32))) (fs := modF ad mb mv) X hK hP fX13_waysOf_133 h_mb ((fL210 mb (by omega) (by omega)).trans m_mb) rfl dX13_waysOf_233 ?_
                  refine lv_iload hx hb dX13_waysOf_236 (lv_at hl 5 rfl) ?_
                  refine q_laldN (f := ((rxS placeF x uN rowsF rowsNextF nt).1)) (k := 220) X hK hP k h_mb_32 mL210_0 (by omega) (by decide) dX13_waysOf_238 ?_
                  refine lv_ladd hx hb dX13_waysOf_239 ?_
                  refine lv_lstore (lv' := [(7, .long (a9 + (((rxS placeF x uN rowsF rowsNextF nt).1) k))), (0, .ref (ad mb)), (1, .int x), (3, .int (nI (nWS placeF x uN nt))), (6, .int ((s_X13_sumAt nt kindF heavyF wideF hotF placeF x 1) - (s_X13_unsureAt nt unsureF placeF x))), (9, .int (nI k))]) hx hb dX13_waysOf_240 hl (by decide) rfl (fun ls hl => ?_)
                  refine lv_iinc (v := ((nI k) + 1)) (lv' := [(9, .int ((nI k) + 1)), (7, .long (a9 + (((rxS placeF x uN rowsF rowsNextF nt).1) k))), (0, .ref (ad mb)), (1, .int x), (3, .int (nI (nWS placeF x uN nt))), (6, .int ((s_X13_sumAt nt kindF heavyF wideF hotF placeF x 1) - (s_X13_unsureAt nt unsureF placeF x)))]) hx hb dX13_waysOf_242 hl (k := 5) rfl rfl (by decide) rfl (fun ls hl => ?_)
                  refine lv_goto (tgt := 210) hx hb dX13_waysOf_245 (by decide) ?_
                  exact ih_210 (k + 1) (a9 + (((rxS placeF x uN rowsF rowsNextF nt).1) k)) ((nI k) + 1) (by omega) (by omega) (by rw [← he, show nWS placeF x uN nt - k = (nWS placeF x uN nt - (k + 1)) + 1 by omega, gwS2, if_neg c_227]) (by exact nI_1 _) _ _ _ mL210_0 mL210_1 (fun q n0 n1 => (fL210 q n0 n1)) hP hS ls (lv_sub hl [2, 3, 4, 5, 1, 0] rfl)
          exact loop_210 (300) 0 0 0 (by have := nWS_b (pl := placeF) (x := x) hub nt (Nat.le_refl _); omega) (by omega) (by rfl) (by rfl) _ _ _ g3 g4 (fun q n0 n1 => (fL15 q n0 n1)) hP hS ls (lv_sub hl [3, 4, 6, 2, 1, 0] rfl)
        · skip
          refine lv_lload hx hb dX13_waysOf_187 (lv_at hl 4 rfl) ?_
          exact q_wlret X hr hlocks hP hS ⟨(by rw [if_neg c_184]), g3, g4, (fun q n0 n1 => (fL15 q n0 n1))⟩ dX13_waysOf_189
      · skip
        rw [k2] at c_23; have h9 := lt_of_nlt c_23 (by omega) ht; obtain ⟨hue, hu9⟩ := hu t h9
        refine lv_aload_n hx hb dX13_waysOf_26 rfl (lv_at hl 0 rfl) ?_
        refine q_get (v := .ref (ad (mb + 18))) (fs := modF ad mb mv) X hK hP fX13_waysOf_84 h_mb ((fL15 mb (by omega) (by omega)).trans m_mb) rfl dX13_waysOf_27 ?_
        refine lv_iload hx hb dX13_waysOf_30 (lv_at hl 5 rfl) ?_
        refine q_ialdN (f := placeF) (k := 24) X hK hP t h_mb_18 ((fL15 (mb + 18) (by omega) (by omega)).trans m_mb_18) (by omega) (by decide) dX13_waysOf_32 ?_
        refine lv_iload_n hx hb dX13_waysOf_33 rfl (lv_at hl 1 rfl) ?_
        refine lv_icmp_eq (tgt := 40) hx hb dX13_waysOf_34 (by decide) (fun c_34 => ?_) (fun c_34 => ?_)
        · skip
          refine lv_iconst (v := 2) hx hb dX13_waysOf_40 (by decide) ?_
          refine lv_aload_n hx hb dX13_waysOf_41 rfl (lv_at hl 0 rfl) ?_
          refine q_get (v := .ref (ad (mb + 14))) (fs := modF ad mb mv) X hK hP fX13_waysOf_72 h_mb ((fL15 mb (by omega) (by omega)).trans m_mb) rfl dX13_waysOf_42 ?_
          refine lv_iload hx hb dX13_waysOf_45 (lv_at hl 5 rfl) ?_
          refine q_ialdN (f := unsureF) (k := 24) X hK hP t h_mb_14 ((fL15 (mb + 14) (by omega) (by omega)).trans m_mb_14) (by omega) (by decide) dX13_waysOf_47 ?_
          refine lv_imul hx hb dX13_waysOf_48 ?_
          refine lv_iconst (v := 1) hx hb dX13_waysOf_49 (by decide) ?_
          refine lv_iadd hx hb dX13_waysOf_50 ?_
          refine lv_istore (lv' := [(7, .int ((2 * (unsureF t)) + 1)), (0, .ref (ad mb)), (1, .int x), (2, .int y), (3, .int (nI (nWS placeF x uN t))), (4, .long (wWS placeF x uN t)), (6, .int (nI t))]) hx hb dX13_waysOf_51 hl (by decide) rfl (fun ls hl => ?_)
          refine lv_iconst (v := 0) hx hb dX13_waysOf_53 (by decide) ?_
          refine lv_istore (lv' := [(8, .int 0), (7, .int ((2 * (unsureF t)) + 1)), (0, .ref (ad mb)), (1, .int x), (2, .int y), (3, .int (nI (nWS placeF x uN t))), (4, .long (wWS placeF x uN t)), (6, .int (nI t))]) hx hb dX13_waysOf_54 hl (by decide) rfl (fun ls hl => ?_)
          have loop_56 : ∀ (fuel : Nat) (k : Nat) (x7 : Int32) (x8 : Int32), (nWS placeF x uN t + 2 * uN t) - k < fuel → (k ≤ (nWS placeF x uN t + 2 * uN t)) → x7 = nI (2 * uN t + 1) → x8 = nI k → ∀ (ML56 : Nat → va_E) (H : Heap) (locs : List Loc), ML56 (mb + 32) = .inl (cJ, 220, .inr (.inl ((rxS placeF x uN rowsF rowsNextF t).1))) → ML56 (mb + 33) = .inl (cJ, 220, .inr (.inl (nxS (nWS placeF x uN t) (2 * uN t + 1) (rxS placeF x uN rowsF rowsNextF t).1 (rxS placeF x uN rowsF rowsNextF t).2 k))) → (∀ q : Nat, q ≠ mb + 32 → q ≠ mb + 33 → ML56 q = M q) → va_P D vwCl (ip ad n ML56) H → va_S (ipA ad n) s.heap H locs → ∀ (ls : Array Slot), lv_has ls 10 [(0, .ref (ad mb)), (1, .int x), (2, .int y), (3, .int (nI (nWS placeF x uN t))), (4, .long (wWS placeF x uN t)), (6, .int (nI t)), (7, .int x7), (8, .int x8)] → W p l e (rmOf 1 25) s m args below meth c H locs 0 0 (MQ below (va_Ql (fun r M' => r = (if y = (0 : Int32) then gwS2 (limitF x.toNatClampNeg) ((s_X13_sumAt nt kindF heavyF wideF hotF placeF x 1) - (s_X13_unsureAt nt unsureF placeF x)) (rxS placeF x uN rowsF rowsNextF nt).1 (nWS placeF x uN nt) 0 0 else wWS placeF x uN nt) ∧ M' (mb + 32) = .inl (cJ, 220, .inr (.inl ((rxS placeF x uN rowsF rowsNextF nt).1))) ∧ M' (mb + 33) = .inl (cJ, 220, .inr (.inl ((rxS placeF x uN rowsF rowsNextF nt).2))) ∧ ∀ q : Nat, q ≠ mb + 32 → q ≠ mb + 33 → M' q = M q) (fun M' t => va_P D vwCl (ip ad n M') t.heap) (ipA ad n)) args s 0 0 (ipA ad n)) (F0 m 56 ls []) := by
            intro fuel
            induction fuel with
            | zero =>
              intro k x7 x8 hz
              exact absurd hz (Nat.not_lt_zero _)
            | succ fuel ih_56 =>
              intro k x7 x8 hz_56 hk e7 e8 ML56 H locs mL56_0 mL56_1 fL56 hP hS ls hl
              subst e7
              subst e8
              skip
              refine lv_iload hx hb dX13_waysOf_56 (lv_at hl 7 rfl) ?_
              refine lv_iload_n hx hb dX13_waysOf_58 rfl (lv_at hl 3 rfl) ?_
              refine lv_iload hx hb dX13_waysOf_59 (lv_at hl 6 rfl) ?_
              refine lv_iadd hx hb dX13_waysOf_61 ?_
              refine lv_iconst (v := 1) hx hb dX13_waysOf_62 (by decide) ?_
              refine lv_isub hx hb dX13_waysOf_63 ?_
              refine lv_icmp_ge (tgt := 133) hx hb dX13_waysOf_64 (by decide) (fun c_64 => ?_) (fun c_64 => ?_)
              · skip
                rw [nI_add, show (nWS placeF x uN t) + (2 * uN t + 1) = (nWS placeF x uN t + 2 * uN t) + 1 by omega, nI_pred] at c_64; have hk8 : k = (nWS placeF x uN t + 2 * uN t) := eq_of_le c_64 (by omega) hk
                refine lv_iload_n hx hb dX13_waysOf_133 rfl (lv_at hl 3 rfl) ?_
                refine lv_iload hx hb dX13_waysOf_134 (lv_at hl 6 rfl) ?_
                refine lv_iconst (v := 1) hx hb dX13_waysOf_136 (by decide) ?_
                refine lv_isub hx hb dX13_waysOf_137 ?_
                refine lv_iadd hx hb dX13_waysOf_138 ?_
                refine lv_istore_n (lv' := [(3, .int ((nI (nWS placeF x uN t)) + ((nI (2 * uN t + 1)) - 1))), (0, .ref (ad mb)), (1, .int x), (2, .int y), (4, .long (wWS placeF x uN t)), (6, .int (nI t)), (7, .int (nI (2 * uN t + 1))), (8, .int (nI k))]) hx hb dX13_waysOf_139 rfl hl (by decide) rfl (fun ls hl => ?_)
                refine lv_iconst (v := 0) hx hb dX13_waysOf_140 (by decide) ?_
                refine lv_istore (lv' := [(8, .int 0), (3, .int ((nI (nWS placeF x uN t)) + ((nI (2 * uN t + 1)) - 1))), (0, .ref (ad mb)), (1, .int x), (2, .int y), (4, .long (wWS placeF x uN t)), (6, .int (nI t)), (7, .int (nI (2 * uN t + 1)))]) hx hb dX13_waysOf_141 hl (by decide) rfl (fun ls hl => ?_)
                have loop_143 : ∀ (fuel : Nat) (k : Nat) (x3 : Int32) (x8 : Int32), (nWS placeF x uN t + 2 * uN t) - k < fuel → (k ≤ (nWS placeF x uN t + 2 * uN t)) → x3 = nI (nWS placeF x uN t + 2 * uN t) → x8 = nI k → ∀ (ML143 : Nat → va_E) (H : Heap) (locs : List Loc), ML143 (mb + 32) = .inl (cJ, 220, .inr (.inl (cpL k (rxS placeF x uN rowsF rowsNextF t).1 (nxS (nWS placeF x uN t) (2 * uN t + 1) (rxS placeF x uN rowsF rowsNextF t).1 (rxS placeF x uN rowsF rowsNextF t).2 (nWS placeF x uN t + 2 * uN t))))) → ML143 (mb + 33) = .inl (cJ, 220, .inr (.inl (nxS (nWS placeF x uN t) (2 * uN t + 1) (rxS placeF x uN rowsF rowsNextF t).1 (rxS placeF x uN rowsF rowsNextF t).2 (nWS placeF x uN t + 2 * uN t)))) → (∀ q : Nat, q ≠ mb + 32 → q ≠ mb + 33 → ML143 q = M q) → va_P D vwCl (ip ad n ML143) H → va_S (ipA ad n) s.heap H locs → ∀ (ls : Array Slot), lv_has ls 10 [(0, .ref (ad mb)), (1, .int x), (2, .int y), (3, .int x3), (4, .long (wWS placeF x uN t)), (6, .int (nI t)), (7, .int (nI (2 * uN t + 1))), (8, .int x8)] → W p l e (rmOf 1 25) s m args below meth c H locs 0 0 (MQ below (va_Ql (fun r M' => r = (if y = (0 : Int32) then gwS2 (limitF x.toNatClampNeg) ((s_X13_sumAt nt kindF heavyF wideF hotF placeF x 1) - (s_X13_unsureAt nt unsureF placeF x)) (rxS placeF x uN rowsF rowsNextF nt).1 (nWS placeF x uN nt) 0 0 else wWS placeF x uN nt) ∧ M' (mb + 32) = .inl (cJ, 220, .inr (.inl ((rxS placeF x uN rowsF rowsNextF nt).1))) ∧ M' (mb + 33) = .inl (cJ, 220, .inr (.inl ((rxS placeF x uN rowsF rowsNextF nt).2))) ∧ ∀ q : Nat, q ≠ mb + 32 → q ≠ mb + 33 → M' q = M q) (fun M' t => va_P D vwCl (ip ad n M') t.heap) (ipA ad n)) args s 0 0 (ipA ad n)) (F0 m 143 ls []) := by
                  intro fuel
                  induction fuel with
                  | zero =>
                    intro k x3 x8 hz
                    exact absurd hz (Nat.not_lt_zero _)
                  | succ fuel ih_143 =>
                    intro k x3 x8 hz_143 hk e3 e8 ML143 H locs mL143_0 mL143_1 fL143 hP hS ls hl
                    subst e3
                    subst e8
                    skip
                    refine lv_iload hx hb dX13_waysOf_143 (lv_at hl 7 rfl) ?_
                    refine lv_iload_n hx hb dX13_waysOf_145 rfl (lv_at hl 3 rfl) ?_
                    refine lv_icmp_ge (tgt := 169) hx hb dX13_waysOf_146 (by decide) (fun c_146 => ?_) (fun c_146 => ?_)
                    · skip
                      have hk9 : k = (nWS placeF x uN t + 2 * uN t) := eq_of_le c_146 (by omega) hk
                      refine lv_lload hx hb dX13_waysOf_169 (lv_at hl 4 rfl) ?_
                      refine lv_iload hx hb dX13_waysOf_171 (lv_at hl 6 rfl) ?_
                      refine lv_i2l hx hb dX13_waysOf_173 rfl ?_
                      refine lv_lmul hx hb dX13_waysOf_174 ?_
                      refine lv_lstore (lv' := [(4, .long ((wWS placeF x uN t) * ((nI (2 * uN t + 1)).toInt64))), (0, .ref (ad mb)), (1, .int x), (2, .int y), (3, .int (nI (nWS placeF x uN t + 2 * uN t))), (6, .int (nI t)), (7, .int (nI (2 * uN t + 1))), (8, .int (nI k))]) hx hb dX13_waysOf_175 hl (by decide) rfl (fun ls hl => ?_)
                      refine lv_iinc (v := ((nI t) + 1)) (lv' := [(6, .int ((nI t) + 1)), (4, .long ((wWS placeF x uN t) * ((nI (2 * uN t + 1)).toInt64))), (0, .ref (ad mb)), (1, .int x), (2, .int y), (3, .int (nI (nWS placeF x uN t + 2 * uN t))), (7, .int (nI (2 * uN t + 1))), (8, .int (nI k))]) hx hb dX13_waysOf_177 hl (k := 5) rfl rfl (by decide) rfl (fun ls hl => ?_)
                      refine lv_goto (tgt := 15) hx hb dX13_waysOf_180 (by decide) ?_
                      exact ih_15 (t + 1) (nI (nWS placeF x uN t + 2 * uN t)) ((wWS placeF x uN t) * ((nI (2 * uN t + 1)).toInt64)) ((nI t) + 1) (by omega) (by omega) (by first | (rw [nWS, if_neg c_34]; done) | (rw [nWS, if_pos c_34]; done)) (by first | (rw [wWS, if_neg c_34]; done) | (rw [wWS, if_pos c_34]; done)) (by exact nI_1 _) _ _ _ (by first | (rw [rxS, if_neg c_34]; exact mL143_0) | (refine mL143_0.trans ?_; rw [rxS, if_pos c_34, hk9])) (by first | (rw [rxS, if_neg c_34]; exact mL143_1) | (rw [rxS, if_pos c_34]; exact mL143_1)) (fun q n0 n1 => (fL143 q n0 n1)) hP hS ls (lv_sub hl [2, 3, 4, 5, 1, 0] rfl)
                    · skip
                      have hk9 := lt_of_nlt c_146 (by omega) hk
                      refine lv_aload_n hx hb dX13_waysOf_149 rfl (lv_at hl 0 rfl) ?_
                      refine q_get (v := .ref (ad (mb + 32))) (fs := modF ad mb mv) X hK hP fX13_waysOf_133 h_mb ((fL143 mb (by omega) (by omega)).trans m_mb) rfl dX13_waysOf_150 ?_
                      refine lv_iload hx hb dX13_waysOf_153 (lv_at hl 7 rfl) ?_
                      refine lv_aload_n hx hb dX13_waysOf_155 rfl (lv_at hl 0 rfl) ?_
                      refine q_get (v := .ref (ad (mb + 33))) (fs := modF ad mb mv) X hK hP fX13_waysOf_137 h_mb ((fL143 mb (by omega) (by omega)).trans m_mb) rfl dX13_waysOf_156 ?_
                      refine lv_iload hx hb dX13_waysOf_159 (lv_at hl 7 rfl) ?_
                      refine q_laldN (f := (nxS (nWS placeF x uN t) (2 * uN t + 1) (rxS placeF x uN rowsF rowsNextF t).1 (rxS placeF x uN rowsF rowsNextF t).2 (nWS placeF x uN t + 2 * uN t))) (k := 220) X hK hP k h_mb_33 mL143_1 (by omega) (by decide) dX13_waysOf_161 ?_
                      refine q_lastN (f := (cpL k (rxS placeF x uN rowsF rowsNextF t).1 (nxS (nWS placeF x uN t) (2 * uN t + 1) (rxS placeF x uN rowsF rowsNextF t).1 (rxS placeF x uN rowsF rowsNextF t).2 (nWS placeF x uN t + 2 * uN t)))) (k := 220) X hK hI hP hS k h_mb_32 mL143_0 (by omega) (by decide) dX13_waysOf_162 (fun H locs hP hS => ?_)
                      refine lv_iinc (v := ((nI k) + 1)) (lv' := [(8, .int ((nI k) + 1)), (0, .ref (ad mb)), (1, .int x), (2, .int y), (3, .int (nI (nWS placeF x uN t + 2 * uN t))), (4, .long (wWS placeF x uN t)), (6, .int (nI t)), (7, .int (nI (2 * uN t + 1)))]) hx hb dX13_waysOf_163 hl (k := 7) rfl rfl (by decide) rfl (fun ls hl => ?_)
                      refine lv_goto (tgt := 143) hx hb dX13_waysOf_166 (by decide) ?_
                      exact ih_143 (k + 1) (nI (nWS placeF x uN t + 2 * uN t)) ((nI k) + 1) (by omega) (by omega) (by rfl) (by exact nI_1 _) _ _ _ (by refine (va_up_self ML143 (mb + 32) (.inl (cJ, 220, .inr (.inl (vp_updL (cpL k (rxS placeF x uN rowsF rowsNextF t).1 (nxS (nWS placeF x uN t) (2 * uN t + 1) (rxS placeF x uN rowsF rowsNextF t).1 (rxS placeF x uN rowsF rowsNextF t).2 (nWS placeF x uN t + 2 * uN t))) k ((nxS (nWS placeF x uN t) (2 * uN t + 1) (rxS placeF x uN rowsF rowsNextF t).1 (rxS placeF x uN rowsF rowsNextF t).2 (nWS placeF x uN t + 2 * uN t)) k)))))).trans ?_; rw [cpL_s]) ((va_up_ne ML143 (.inl (cJ, 220, .inr (.inl (vp_updL (cpL k (rxS placeF x uN rowsF rowsNextF t).1 (nxS (nWS placeF x uN t) (2 * uN t + 1) (rxS placeF x uN rowsF rowsNextF t).1 (rxS placeF x uN rowsF rowsNextF t).2 (nWS placeF x uN t + 2 * uN t))) k ((nxS (nWS placeF x uN t) (2 * uN t + 1) (rxS placeF x uN rowsF rowsNextF t).1 (rxS placeF x uN rowsF rowsNextF t).2 (nWS placeF x uN t + 2 * uN t)) k))))) (show mb + 33 ≠ mb + 32 by omega)).trans mL143_1) (fun q n0 n1 => ((va_up_ne _ _ n0).trans (fL143 q n0 n1))) hP hS ls (lv_sub hl [1, 2, 3, 4, 5, 6, 7, 0] rfl)
                exact loop_143 (300) 0 ((nI (nWS placeF x uN t)) + ((nI (2 * uN t + 1)) - 1)) 0 (by omega) (by omega) (by rw [nI_pred, nI_add]) (by rfl) _ _ _ (by rw [cpL_0]; exact mL56_0) (by rw [← hk8]; exact mL56_1) (fun q n0 n1 => (fL56 q n0 n1)) hP hS ls (lv_sub hl [2, 3, 4, 1, 5, 6, 7, 0] rfl)
              · skip
                rw [nI_add, show (nWS placeF x uN t) + (2 * uN t + 1) = (nWS placeF x uN t + 2 * uN t) + 1 by omega, nI_pred] at c_64; have hk8 := lt_of_nlt c_64 (by omega) hk
                refine lv_aload_n hx hb dX13_waysOf_67 rfl (lv_at hl 0 rfl) ?_
                refine q_get (v := .ref (ad (mb + 33))) (fs := modF ad mb mv) X hK hP fX13_waysOf_137 h_mb ((fL56 mb (by omega) (by omega)).trans m_mb) rfl dX13_waysOf_68 ?_
                refine lv_iload hx hb dX13_waysOf_71 (lv_at hl 7 rfl) ?_
                refine lv_lconst (v := 0) hx hb dX13_waysOf_73 (by decide) ?_
                refine q_lastN (f := (nxS (nWS placeF x uN t) (2 * uN t + 1) (rxS placeF x uN rowsF rowsNextF t).1 (rxS placeF x uN rowsF rowsNextF t).2 k)) (k := 220) X hK hI hP hS k h_mb_33 mL56_1 (by omega) (by decide) dX13_waysOf_74 (fun H locs hP hS => ?_)
                refine lv_iconst (v := 0) hx hb dX13_waysOf_75 (by decide) ?_
                refine lv_iload hx hb dX13_waysOf_76 (lv_at hl 7 rfl) ?_
                refine lv_iload_n hx hb dX13_waysOf_78 rfl (lv_at hl 3 rfl) ?_
                refine lv_isub hx hb dX13_waysOf_79 ?_
                refine lv_iconst (v := 1) hx hb dX13_waysOf_80 (by decide) ?_
                refine lv_iadd hx hb dX13_waysOf_81 ?_
                refine q_max X hl.1 (by decide +kernel) (by decide +kernel) (by decide +kernel) (by decide +kernel) ⟨Nat.le_of_ble_eq_true rfl, Nat.le_of_ble_eq_true rfl⟩ (Nat.le_of_ble_eq_true rfl) ⟨Nat.zero_le _, Nat.zero_le _⟩ dX13_waysOf_82 ?_
                refine lv_istore (lv' := [(9, .int (imax 0 (((nI k) - (nI (nWS placeF x uN t))) + 1))), (0, .ref (ad mb)), (1, .int x), (2, .int y), (3, .int (nI (nWS placeF x uN t))), (4, .long (wWS placeF x uN t)), (6, .int (nI t)), (7, .int (nI (2 * uN t + 1))), (8, .int (nI k))]) hx hb dX13_waysOf_85 hl (by decide) rfl (fun ls hl => ?_)
                have loop_87 : ∀ (fuel : Nat) (j : Nat) (x9 : Int32), min (2 * uN t + 1) (k + 1) - (k + 1 - (nWS placeF x uN t)) - j < fuel → (j ≤ min (2 * uN t + 1) (k + 1) - (k + 1 - (nWS placeF x uN t))) → x9 = nI (k + 1 - (nWS placeF x uN t) + j) → ∀ (ML87 : Nat → va_E) (H : Heap) (locs : List Loc), ML87 (mb + 32) = .inl (cJ, 220, .inr (.inl ((rxS placeF x uN rowsF rowsNextF t).1))) → ML87 (mb + 33) = .inl (cJ, 220, .inr (.inl (vp_updL (nxS (nWS placeF x uN t) (2 * uN t + 1) (rxS placeF x uN rowsF rowsNextF t).1 (rxS placeF x uN rowsF rowsNextF t).2 k) k (isN (rxS placeF x uN rowsF rowsNextF t).1 k (k + 1 - (nWS placeF x uN t)) j)))) → (∀ q : Nat, q ≠ mb + 32 → q ≠ mb + 33 → ML87 q = M q) → va_P D vwCl (ip ad n ML87) H → va_S (ipA ad n) s.heap H locs → ∀ (ls : Array Slot), lv_has ls 10 [(0, .ref (ad mb)), (1, .int x), (2, .int y), (3, .int (nI (nWS placeF x uN t))), (4, .long (wWS placeF x uN t)), (6, .int (nI t)), (7, .int (nI (2 * uN t + 1))), (8, .int (nI k)), (9, .int x9)] → W p l e (rmOf 1 25) s m args below meth c H locs 0 0 (MQ below (va_Ql (fun r M' => r = (if y = (0 : Int32) then gwS2 (limitF x.toNatClampNeg) ((s_X13_sumAt nt kindF heavyF wideF hotF placeF x 1) - (s_X13_unsureAt nt unsureF placeF x)) (rxS placeF x uN rowsF rowsNextF nt).1 (nWS placeF x uN nt) 0 0 else wWS placeF x uN nt) ∧ M' (mb + 32) = .inl (cJ, 220, .inr (.inl ((rxS placeF x uN rowsF rowsNextF nt).1))) ∧ M' (mb + 33) = .inl (cJ, 220, .inr (.inl ((rxS placeF x uN rowsF rowsNextF nt).2))) ∧ ∀ q : Nat, q ≠ mb + 32 → q ≠ mb + 33 → M' q = M q) (fun M' t => va_P D vwCl (ip ad n M') t.heap) (ipA ad n)) args s 0 0 (ipA ad n)) (F0 m 87 ls []) := by
                  intro fuel
                  induction fuel with
                  | zero =>
                    intro j x9 hz
                    exact absurd hz (Nat.not_lt_zero _)
                  | succ fuel ih_87 =>
                    intro j x9 hz_87 hj0 e9 ML87 H locs mL87_0 mL87_1 fL87 hP hS ls hl
                    subst e9
                    skip
                    refine lv_iload hx hb dX13_waysOf_87 (lv_at hl 8 rfl) ?_
                    refine lv_iload hx hb dX13_waysOf_89 (lv_at hl 6 rfl) ?_
                    refine lv_icmp_ge (tgt := 127) hx hb dX13_waysOf_91 (by decide) (fun c_91 => ?_) (fun c_91 => ?_)
                    · skip
                      have hj : min (2 * uN t + 1) (k + 1) - (k + 1 - (nWS placeF x uN t)) = j := (by have := (nI_leI (by omega) (by omega)).mp c_91; omega)
                      refine lv_iinc (v := ((nI k) + 1)) (lv' := [(8, .int ((nI k) + 1)), (0, .ref (ad mb)), (1, .int x), (2, .int y), (3, .int (nI (nWS placeF x uN t))), (4, .long (wWS placeF x uN t)), (6, .int (nI t)), (7, .int (nI (2 * uN t + 1))), (9, .int (nI (k + 1 - (nWS placeF x uN t) + j)))]) hx hb dX13_waysOf_127 hl (k := 7) rfl rfl (by decide) rfl (fun ls hl => ?_)
                      refine lv_goto (tgt := 56) hx hb dX13_waysOf_130 (by decide) ?_
                      exact ih_56 (k + 1) (nI (2 * uN t + 1)) ((nI k) + 1) (by omega) (by omega) (by rfl) (by exact nI_1 _) _ _ _ mL87_0 (by refine mL87_1.trans ?_; rw [nxS, isV, hj]) (fun q n0 n1 => (fL87 q n0 n1)) hP hS ls (lv_sub hl [1, 2, 3, 4, 5, 6, 7, 0] rfl)
                    · skip
                      have hq1 := Nat.lt_of_not_le (fun q => c_91 (nI_le q (by omega)))
                      refine lv_iload hx hb dX13_waysOf_94 (lv_at hl 8 rfl) ?_
                      refine lv_iload hx hb dX13_waysOf_96 (lv_at hl 7 rfl) ?_
                      refine lv_icmp_gt (tgt := 127) hx hb dX13_waysOf_98 (by decide) (fun c_98 => ?_) (fun c_98 => ?_)
                      · skip
                        have hj : min (2 * uN t + 1) (k + 1) - (k + 1 - (nWS placeF x uN t)) = j := (by have := (nI_ltI (by omega) (by omega)).mp c_98; omega)
                        refine lv_iinc (v := ((nI k) + 1)) (lv' := [(8, .int ((nI k) + 1)), (0, .ref (ad mb)), (1, .int x), (2, .int y), (3, .int (nI (nWS placeF x uN t))), (4, .long (wWS placeF x uN t)), (6, .int (nI t)), (7, .int (nI (2 * uN t + 1))), (9, .int (nI (k + 1 - (nWS placeF x uN t) + j)))]) hx hb dX13_waysOf_127 hl (k := 7) rfl rfl (by decide) rfl (fun ls hl => ?_)
                        refine lv_goto (tgt := 56) hx hb dX13_waysOf_130 (by decide) ?_
                        exact ih_56 (k + 1) (nI (2 * uN t + 1)) ((nI k) + 1) (by omega) (by omega) (by rfl) (by exact nI_1 _) _ _ _ mL87_0 (by refine mL87_1.trans ?_; rw [nxS, isV, hj]) (fun q n0 n1 => (fL87 q n0 n1)) hP hS ls (lv_sub hl [1, 2, 3, 4, 5, 6, 7, 0] rfl)
                      · skip
                        have hq2 := Nat.le_of_not_lt (fun q => c_98 (nI_lt q (by omega)))
                        refine lv_aload_n hx hb dX13_waysOf_101 rfl (lv_at hl 0 rfl) ?_
                        refine q_get (v := .ref (ad (mb + 33))) (fs := modF ad mb mv) X hK hP fX13_waysOf_137 h_mb ((fL87 mb (by omega) (by omega)).trans m_mb) rfl dX13_waysOf_102 ?_
                        refine lv_iload hx hb dX13_waysOf_105 (lv_at hl 7 rfl) ?_
                        refine lv_dup2_11 hx hb dX13_waysOf_107 rfl rfl ?_
                        refine q_laldN (f := (vp_updL (nxS (nWS placeF x uN t) (2 * uN t + 1) (rxS placeF x uN rowsF rowsNextF t).1 (rxS placeF x uN rowsF rowsNextF t).2 k) k (isN (rxS placeF x uN rowsF rowsNextF t).1 k (k + 1 - (nWS placeF x uN t)) j))) (k := 220) X hK hP k h_mb_33 mL87_1 (by omega) (by decide) dX13_waysOf_108 ?_
                        refine lv_aload_n hx hb dX13_waysOf_109 rfl (lv_at hl 0 rfl) ?_
                        refine q_get (v := .ref (ad (mb + 32))) (fs := modF ad mb mv) X hK hP fX13_waysOf_133 h_mb ((fL87 mb (by omega) (by omega)).trans m_mb) rfl dX13_waysOf_110 ?_
                        refine lv_iload hx hb dX13_waysOf_113 (lv_at hl 7 rfl) ?_
                        refine lv_iload hx hb dX13_waysOf_115 (lv_at hl 8 rfl) ?_
                        refine lv_isub hx hb dX13_waysOf_117 ?_
                        refine q_lald (f := ((rxS placeF x uN rowsF rowsNextF t).1)) (k := 220) X hK hP h_mb_32 mL87_0 (by rw [pk_sub (show k + 1 - (nWS placeF x uN t) + j ≤ k by omega)]; exact vp_in_nI (by omega) (by decide)) dX13_waysOf_118 ?_
                        refine lv_ladd hx hb dX13_waysOf_119 ?_
                        refine q_lastN (f := (vp_updL (nxS (nWS placeF x uN t) (2 * uN t + 1) (rxS placeF x uN rowsF rowsNextF t).1 (rxS placeF x uN rowsF rowsNextF t).2 k) k (isN (rxS placeF x uN rowsF rowsNextF t).1 k (k + 1 - (nWS placeF x uN t)) j))) (k := 220) X hK hI hP hS k h_mb_33 mL87_1 (by omega) (by decide) dX13_waysOf_120 (fun H locs hP hS => ?_)
                        refine lv_iinc (v := ((nI (k + 1 - (nWS placeF x uN t) + j)) + 1)) (lv' := [(9, .int ((nI (k + 1 - (nWS placeF x uN t) + j)) + 1)), (0, .ref (ad mb)), (1, .int x), (2, .int y), (3, .int (nI (nWS placeF x uN t))), (4, .long (wWS placeF x uN t)), (6, .int (nI t)), (7, .int (nI (2 * uN t + 1))), (8, .int (nI k))]) hx hb dX13_waysOf_121 hl (k := 8) rfl rfl (by decide) rfl (fun ls hl => ?_)
                        refine lv_goto (tgt := 87) hx hb dX13_waysOf_124 (by decide) ?_
                        exact ih_87 (j + 1) ((nI (k + 1 - (nWS placeF x uN t) + j)) + 1) (by omega) (by omega) (by exact nI_1 _) _ _ _ ((va_up_ne ML87 (.inl (cJ, 220, .inr (.inl (vp_updL (vp_updL (nxS (nWS placeF x uN t) (2 * uN t + 1) (rxS placeF x uN rowsF rowsNextF t).1 (rxS placeF x uN rowsF rowsNextF t).2 k) k (isN (rxS placeF x uN rowsF rowsNextF t).1 k (k + 1 - (nWS placeF x uN t)) j)) k (((vp_updL (nxS (nWS placeF x uN t) (2 * uN t + 1) (rxS placeF x uN rowsF rowsNextF t).1 (rxS placeF x uN rowsF rowsNextF t).2 k) k (isN (rxS placeF x uN rowsF rowsNextF t).1 k (k + 1 - (nWS placeF x uN t)) j)) k) + (((rxS placeF x uN rowsF rowsNextF t).1) ((nI k) - (nI (k + 1 - (nWS placeF x uN t) + j))).toNatClampNeg)))))) (show mb + 32 ≠ mb + 33 by omega)).trans mL87_0) (by refine (va_up_self ML87 (mb + 33) (.inl (cJ, 220, .inr (.inl (vp_updL (vp_updL (nxS (nWS placeF x uN t) (2 * uN t + 1) (rxS placeF x uN rowsF rowsNextF t).1 (rxS placeF x uN rowsF rowsNextF t).2 k) k (isN (rxS placeF x uN rowsF rowsNextF t).1 k (k + 1 - (nWS placeF x uN t)) j)) k (((vp_updL (nxS (nWS placeF x uN t) (2 * uN t + 1) (rxS placeF x uN rowsF rowsNextF t).1 (rxS placeF x uN rowsF rowsNextF t).2 k) k (isN (rxS placeF x uN rowsF rowsNextF t).1 k (k + 1 - (nWS placeF x uN t)) j)) k) + (((rxS placeF x uN rowsF rowsNextF t).1) ((nI k) - (nI (k + 1 - (nWS placeF x uN t) + j))).toNatClampNeg))))))).trans ?_; rw [upL_at, upL_up, isN, pk_sub (show k + 1 - (nWS placeF x uN t) + j ≤ k by omega), nI_clamp (by omega)]) (fun q n0 n1 => ((va_up_ne _ _ n1).trans (fL87 q n0 n1))) hP hS ls (lv_sub hl [1, 2, 3, 4, 5, 6, 7, 8, 0] rfl)
                exact loop_87 (300) 0 (imax 0 (((nI k) - (nI (nWS placeF x uN t))) + 1)) (by omega) (by exact Nat.zero_le _) (by exact mx_i (by omega) (by omega)) _ _ _ ((va_up_ne ML56 (.inl (cJ, 220, .inr (.inl (vp_updL (nxS (nWS placeF x uN t) (2 * uN t + 1) (rxS placeF x uN rowsF rowsNextF t).1 (rxS placeF x uN rowsF rowsNextF t).2 k) k 0)))) (show mb + 32 ≠ mb + 33 by omega)).trans mL56_0) (by exact (va_up_self ML56 (mb + 33) (.inl (cJ, 220, .inr (.inl (vp_updL (nxS (nWS placeF x uN t) (2 * uN t + 1) (rxS placeF x uN rowsF rowsNextF t).1 (rxS placeF x uN rowsF rowsNextF t).2 k) k 0)))))) (fun q n0 n1 => ((va_up_ne _ _ n1).trans (fL56 q n0 n1))) hP hS ls (lv_sub hl [1, 2, 3, 4, 5, 6, 7, 8, 0] rfl)
          exact loop_56 (300) 0 ((2 * (unsureF t)) + 1) 0 (by omega) (by omega) (by rw [hue, show (2 : Int32) = nI 2 from rfl, pk_mul, nI_1]) (by rfl) _ _ _ mL15_0 mL15_1 (fun q n0 n1 => (fL15 q n0 n1)) hP hS ls (lv_sub hl [2, 3, 4, 5, 6, 7, 1, 0] rfl)
        · skip
          refine lv_goto (tgt := 177) hx hb dX13_waysOf_37 (by decide) ?_
          refine lv_iinc (v := ((nI t) + 1)) (lv' := [(6, .int ((nI t) + 1)), (0, .ref (ad mb)), (1, .int x), (2, .int y), (3, .int (nI (nWS placeF x uN t))), (4, .long (wWS placeF x uN t))]) hx hb dX13_waysOf_177 hl (k := 5) rfl rfl (by decide) rfl (fun ls hl => ?_)
          refine lv_goto (tgt := 15) hx hb dX13_waysOf_180 (by decide) ?_
          exact ih_15 (t + 1) (nI (nWS placeF x uN t)) (wWS placeF x uN t) ((nI t) + 1) (by omega) (by omega) (by first | (rw [nWS, if_neg c_34]; done) | (rw [nWS, if_pos c_34]; done)) (by first | (rw [wWS, if_neg c_34]; done) | (rw [wWS, if_pos c_34]; done)) (by exact nI_1 _) _ _ _ (by first | (rw [rxS, if_neg c_34]; exact mL15_0) | (refine mL15_0.trans ?_; rw [rxS, if_pos c_34, hk9])) (by first | (rw [rxS, if_neg c_34]; exact mL15_1) | (rw [rxS, if_pos c_34]; exact mL15_1)) (fun q n0 n1 => (fL15 q n0 n1)) hP hS ls (lv_sub hl [1, 2, 3, 4, 5, 0] rfl)
  exact loop_15 (nt + 1) 0 1 1 0 (by omega) (by omega) (by rfl) (by rfl) (by rfl) _ _ _ (va_up_self M (mb + 32) (.inl (cJ, 220, .inr (.inl (vp_updL rowsF 0 1))))) ((va_up_ne M (.inl (cJ, 220, .inr (.inl (vp_updL rowsF 0 1)))) (show mb + 33 ≠ mb + 32 by omega)).trans m_mb_33) (fun q n0 n1 => (va_up_ne _ _ n0)) hP hS ls (lv_sub hl [3, 4, 5, 2, 1, 0] rfl)
end
