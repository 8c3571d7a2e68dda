/-! PoundsOverModel: shifts that are tried -/
theorem rem_vp {x d : Int32} {k N : Nat} (hd : d = nI k) (h0 : 0 < k) (hk : k ≤ N) (hN : N < 2 ^ 31) : vp_in ((x &&& 32767) - (x &&& 32767) / d * d) N := by
  obtain ⟨j, hj, e⟩ := pk_andE x (m := 32767) 15 (by decide)
  rw [e, hd, pk_rem (by omega) h0 (by omega)]
  exact vp_in_nI (Nat.lt_of_lt_of_le (Nat.mod_lt _ h0) hk) hN
theorem ne_of_nI {d : Int32} {k : Nat} (hd : d = nI k) (h0 : 0 < k) (hk : k < 2 ^ 31) : ¬ d = 0 := by
  rw [hd]
  exact nI_ne0 h0 hk
set_option maxRecDepth 20000 in
theorem fX13_counter_173 : FL wsX13_counter RX13 173 12 2 := ⟨RX13, TX13, 67, rfl, by decide +kernel, by decide, by decide +kernel⟩
set_option maxRecDepth 20000 in
theorem fX13_counter_40 : FL wsX13_counter RX13 40 12 3 := ⟨RX13, TX13, 67, rfl, by decide +kernel, by decide, by decide +kernel⟩
set_option maxRecDepth 20000 in
theorem fX13_counter_121 : FL wsX13_counter RX13 121 12 42 := ⟨RX13, TX13, 67, rfl, by decide +kernel, by decide, by decide +kernel⟩
set_option maxRecDepth 20000 in
theorem fX13_counter_84 : FL wsX13_counter RX13 84 12 18 := ⟨RX13, TX13, 67, rfl, by decide +kernel, by decide, by decide +kernel⟩
theorem yd_X13_allGo : YD yX13_allGo 0 := ⟨by decide +kernel, by decide +kernel, by decide +kernel⟩
def s_X13_counter_41s (placeF : Nat → Int32) (t41 : Nat) (y41_0 : Nat → Int32) : (Nat → Int32) := (upd y41_0 t41 (placeF t41))
def s_X13_counter_41 (placeF : Nat → Int32) (z0 : Nat → Int32) : Nat → (Nat → Int32)
  | 0 => z0
  | t + 1 => s_X13_counter_41s placeF t (s_X13_counter_41 placeF z0 t)
def s_X13_counter_84s (nt : Nat) (nc : Nat) (nq : Nat) (toldF : Nat → Int32) (pocketsF : Nat → Int32) (bearsF : Nat → Int32) (limitF : Nat → Int32) (holdsF : Nat → Int32) (boardF : Nat → Int32) (kindF : Nat → Int32) (heavyF : Nat → Int32) (wideF : Nat → Int32) (hotF : Nat → Int32) (postToF : Nat → Int32) (priceF : Nat → Int32) (t84 : Nat) (x84_6 : Int32) (x84_5 : Int32) (x84_4 : Int32) (y84_0 : Nat → Int32) : Int32 × Int32 × Int32 × (Nat → Int32) := if (s_X13_isCase toldF (y84_0 (((((x84_4 * 1103515245) + 12345) >>> ((16 : Int32) &&& 31)) &&& 32767) - ((((x84_4 * 1103515245) + 12345) >>> ((16 : Int32) &&& 31)) &&& 32767) / (toldF 2) * (toldF 2)).toNatClampNeg)) = 0 then if (s_X13_allGo nt nc limitF kindF heavyF wideF hotF y84_0) = 0 then ((x84_6 + 0), x84_5, ((((x84_4 * 1103515245) + 12345) * 1103515245) + 12345), y84_0) else ((x84_6 + 1), x84_5, ((((x84_4 * 1103515245) + 12345) * 1103515245) + 12345), y84_0) else if (s_X13_mayBe nt nq toldF pocketsF bearsF holdsF boardF kindF heavyF wideF hotF y84_0 postToF priceF (((((x84_4 * 1103515245) + 12345) >>> ((16 : Int32) &&& 31)) &&& 32767) - ((((x84_4 * 1103515245) + 12345) >>> ((16 : Int32) &&& 31)) &&& 32767) / (toldF 2) * (toldF 2)) (((((((x84_4 * 1103515245) + 12345) * 1103515245) + 12345) >>> ((16 : Int32) &&& 31)) &&& 32767) - ((((((x84_4 * 1103515245) + 12345) * 1103515245) + 12345) >>> ((16 : Int32) &&& 31)) &&& 32767) / (toldF 1) * (toldF 1))) = 0 then if (s_X13_allGo nt nc limitF kindF heavyF wideF hotF y84_0) = 0 then ((x84_6 + 0), x84_5, ((((x84_4 * 1103515245) + 12345) * 1103515245) + 12345), y84_0) else ((x84_6 + 1), x84_5, ((((x84_4 * 1103515245) + 12345) * 1103515245) + 12345), y84_0) else if (s_X13_allGo nt nc limitF kindF heavyF wideF hotF (upd y84_0 (((((x84_4 * 1103515245) + 12345) >>> ((16 : Int32) &&& 31)) &&& 32767) - ((((x84_4 * 1103515245) + 12345) >>> ((16 : Int32) &&& 31)) &&& 32767) / (toldF 2) * (toldF 2)).toNatClampNeg (((((((x84_4 * 1103515245) + 12345) * 1103515245) + 12345) >>> ((16 : Int32) &&& 31)) &&& 32767) - ((((((x84_4 * 1103515245) + 12345) * 1103515245) + 12345) >>> ((16 : Int32) &&& 31)) &&& 32767) / (toldF 1) * (toldF 1)))) = 0 then ((x84_6 + 0), (x84_5 + 1), ((((x84_4 * 1103515245) + 12345) * 1103515245) + 12345), upd y84_0 (((((x84_4 * 1103515245) + 12345) >>> ((16 : Int32) &&& 31)) &&& 32767) - ((((x84_4 * 1103515245) + 12345) >>> ((16 : Int32) &&& 31)) &&& 32767) / (toldF 2) * (toldF 2)).toNatClampNeg (((((((x84_4 * 1103515245) + 12345) * 1103515245) + 12345) >>> ((16 : Int32) &&& 31)) &&& 32767) - ((((((x84_4 * 1103515245) + 12345) * 1103515245) + 12345) >>> ((16 : Int32) &&& 31)) &&& 32767) / (toldF 1) * (toldF 1))) else ((x84_6 + 1), (x84_5 + 1), ((((x84_4 * 1103515245) + 12345) * 1103515245) + 12345), upd y84_0 (((((x84_4 * 1103515245) + 12345) >>> ((16 : Int32) &&& 31)) &&& 32767) - ((((x84_4 * 1103515245) + 12345) >>> ((16 : Int32) &&& 31)) &&& 32767) / (toldF 2) * (toldF 2)).toNatClampNeg (((((((x84_4 * 1103515245) + 12345) * 1103515245) + 12345) >>> ((16 : Int32) &&& 31)) &&& 32767) - ((((((x84_4 * 1103515245) + 12345) * 1103515245) + 12345) >>> ((16 : Int32) &&& 31)) &&& 32767) / (toldF 1) * (toldF 1)))
def s_X13_counter_84 (nt : Nat) (nc : Nat) (nq : Nat) (toldF : Nat → Int32) (pocketsF : Nat → Int32) (bearsF : Nat → Int32) (limitF : Nat → Int32) (holdsF : Nat → Int32) (boardF : Nat → Int32) (kindF : Nat → Int32) (heavyF : Nat → Int32) (wideF : Nat → Int32) (hotF : Nat → Int32) (postToF : Nat → Int32) (priceF : Nat → Int32) (z0 : Int32) (z1 : Int32) (z2 : Int32) (z3 : Nat → Int32) : Nat → Int32 × Int32 × Int32 × (Nat → Int32)
  | 0 => (z0, z1, z2, z3)
  | t + 1 => s_X13_counter_84s nt nc nq toldF pocketsF bearsF limitF holdsF boardF kindF heavyF wideF hotF postToF priceF t ((s_X13_counter_84 nt nc nq toldF pocketsF bearsF limitF holdsF boardF kindF heavyF wideF hotF postToF priceF z0 z1 z2 z3 t).1) ((s_X13_counter_84 nt nc nq toldF pocketsF bearsF limitF holdsF boardF kindF heavyF wideF hotF postToF priceF z0 z1 z2 z3 t).2.1) ((s_X13_counter_84 nt nc nq toldF pocketsF bearsF limitF holdsF boardF kindF heavyF wideF hotF postToF priceF z0 z1 z2 z3 t).2.2.1) ((s_X13_counter_84 nt nc nq toldF pocketsF bearsF limitF holdsF boardF kindF heavyF wideF hotF postToF priceF z0 z1 z2 z3 t).2.2.2)
def s_X13_counter_231s (nt : Nat) (placeF : Nat → Int32) (placeWasF : Nat → Int32) (t231 : Nat) (y231_0 : Nat → Int32) : (Nat → Int32) := (upd y231_0 t231 ((s_X13_counter_41 placeF placeWasF nt) t231))
def s_X13_counter_231 (nt : Nat) (placeF : Nat → Int32) (placeWasF : Nat → Int32) (z0 : Nat → Int32) : Nat → (Nat → Int32)
  | 0 => z0
  | t + 1 => s_X13_counter_231s nt placeF placeWasF t (s_X13_counter_231 nt placeF placeWasF z0 t)
def s_X13_counter (nt : Nat) (nc : Nat) (nq : Nat) (toldF : Nat → Int32) (pocketsF : Nat → Int32) (bearsF : Nat → Int32) (limitF : Nat → Int32) (holdsF : Nat → Int32) (boardF : Nat → Int32) (kindF : Nat → Int32) (heavyF : Nat → Int32) (wideF : Nat → Int32) (hotF : Nat → Int32) (placeF : Nat → Int32) (postToF : Nat → Int32) (priceF : Nat → Int32) (ni : Nat) (x : Int32) (z : Int32) : Int32 := if z < 0 then (s_X13_fail) else if z ≤ 1 then if (s_X13_isIn ((nI ni).toInt64) 0 200) = 0 then (s_X13_fail) else if z = 0 then ((s_X13_counter_84 nt nc nq toldF pocketsF bearsF limitF holdsF boardF kindF heavyF wideF hotF postToF priceF 0 0 x placeF ni).2.1) else ((s_X13_counter_84 nt nc nq toldF pocketsF bearsF limitF holdsF boardF kindF heavyF wideF hotF postToF priceF 0 0 x placeF ni).1) else (s_X13_fail)
def s_X13_counter_0_f (nt : Nat) (nc : Nat) (nq : Nat) (toldF : Nat → Int32) (pocketsF : Nat → Int32) (bearsF : Nat → Int32) (limitF : Nat → Int32) (holdsF : Nat → Int32) (boardF : Nat → Int32) (kindF : Nat → Int32) (heavyF : Nat → Int32) (wideF : Nat → Int32) (hotF : Nat → Int32) (placeF : Nat → Int32) (postToF : Nat → Int32) (priceF : Nat → Int32) (placeWasF : Nat → Int32) (ni : Nat) (x : Int32) (z : Int32) : Nat → Int32 := if z < 0 then placeF else if z ≤ 1 then if (s_X13_isIn ((nI ni).toInt64) 0 200) = 0 then placeF else if z = 0 then (s_X13_counter_231 nt placeF placeWasF ((s_X13_counter_84 nt nc nq toldF pocketsF bearsF limitF holdsF boardF kindF heavyF wideF hotF postToF priceF 0 0 x placeF ni).2.2.2) nt) else (s_X13_counter_231 nt placeF placeWasF ((s_X13_counter_84 nt nc nq toldF pocketsF bearsF limitF holdsF boardF kindF heavyF wideF hotF postToF priceF 0 0 x placeF ni).2.2.2) nt) else placeF
def s_X13_counter_1_f (nt : Nat) (placeF : Nat → Int32) (placeWasF : Nat → Int32) (ni : Nat) (z : Int32) : Nat → Int32 := if z < 0 then placeWasF else if z ≤ 1 then if (s_X13_isIn ((nI ni).toInt64) 0 200) = 0 then placeWasF else if z = 0 then (s_X13_counter_41 placeF placeWasF nt) else (s_X13_counter_41 placeF placeWasF nt) else placeWasF
def s_X13_counter_2_1 (mv : Nat → Int32) (ni : Nat) (z : Int32) : Nat → Int32 := if z < 0 then (upd (upd mv 2 0) 2 1) else if z ≤ 1 then if (s_X13_isIn ((nI ni).toInt64) 0 200) = 0 then (upd (upd mv 2 0) 2 2) else if z = 0 then (upd mv 2 0) else (upd mv 2 0) else (upd (upd mv 2 0) 2 1)
set_option maxHeartbeats 4000000 in
set_option maxRecDepth 100000 in
theorem c_X13_counter (l : Launch) (D : va_G) (cB cI cJ : ClassId) (ad : Nat → Nat) (n : Nat) (M : Nat → va_E) (hI : ipI ad n) (mb : Nat) (nt : Nat) (nc : Nat) (np : Nat) (nq : Nat) (mv : Nat → Int32) (toldF : Nat → Int32) (pocketsF : Nat → Int32) (bearsF : Nat → Int32) (limitF : Nat → Int32) (holdsF : Nat → Int32) (boardF : Nat → Int32) (kindF : Nat → Int32) (heavyF : Nat → Int32) (wideF : Nat → Int32) (hotF : Nat → Int32) (placeF : Nat → Int32) (postToF : Nat → Int32) (priceF : Nat → Int32) (placeWasF : Nat → Int32) (ni : Nat) (x : Int32) (z : Int32) (h_mb : mb < n) (h_mb_3 : mb + 3 < n) (h_mb_5 : mb + 5 < n) (h_mb_6 : mb + 6 < n) (h_mb_8 : mb + 8 < n) (h_mb_9 : mb + 9 < n) (h_mb_11 : mb + 11 < n) (h_mb_12 : mb + 12 < n) (h_mb_13 : mb + 13 < n) (h_mb_15 : mb + 15 < n) (h_mb_17 : mb + 17 < n) (h_mb_18 : mb + 18 < n) (h_mb_19 : mb + 19 < n) (h_mb_20 : mb + 20 < n) (h_mb_29 : mb + 29 < n) (m_mb : M mb = .inr (12, modF ad mb mv)) (m_mb_3 : M (mb + 3) = .inl (cI, 14, .inl toldF)) (m_mb_5 : M (mb + 5) = .inl (cI, 8, .inl pocketsF)) (m_mb_6 : M (mb + 6) = .inl (cI, 8, .inl bearsF)) (m_mb_8 : M (mb + 8) = .inl (cI, 10, .inl limitF)) (m_mb_9 : M (mb + 9) = .inl (cI, 10, .inl holdsF)) (m_mb_11 : M (mb + 11) = .inl (cI, 10, .inl boardF)) (m_mb_12 : M (mb + 12) = .inl (cI, 24, .inl kindF)) (m_mb_13 : M (mb + 13) = .inl (cI, 24, .inl heavyF)) (m_mb_15 : M (mb + 15) = .inl (cI, 24, .inl wideF)) (m_mb_17 : M (mb + 17) = .inl (cI, 24, .inl hotF)) (m_mb_18 : M (mb + 18) = .inl (cI, 24, .inl placeF)) (m_mb_19 : M (mb + 19) = .inl (cI, 12, .inl postToF)) (m_mb_20 : M (mb + 20) = .inl (cI, 12, .inl priceF)) (m_mb_29 : M (mb + 29) = .inl (cI, 12, .inl placeWasF)) (k0 : toldF 0 = nI np) (hnp : np ≤ 4) (k1 : toldF 1 = nI nc) (hnc : nc ≤ 5) (k2 : toldF 2 = nI nt) (hnt : nt ≤ 12) (k3 : toldF 3 = nI nq) (hnq : nq ≤ 6) (hni : ni ≤ 200) (h0t : 0 < nt) (h0c : 0 < nc) : cWi l D cB cI cJ ad n M yX13_counter wsX13_counter 3 68 [.ref (ad mb), .int x, .int (nI ni), .int z] (fun r M' => r = s_X13_counter nt nc nq toldF pocketsF bearsF limitF holdsF boardF kindF heavyF wideF hotF placeF postToF priceF ni x z ∧ M' (mb + 18) = .inl (cI, 24, .inl (s_X13_counter_0_f nt nc nq toldF pocketsF bearsF limitF holdsF boardF kindF heavyF wideF hotF placeF postToF priceF placeWasF ni x z)) ∧ M' (mb + 29) = .inl (cI, 12, .inl (s_X13_counter_1_f nt placeF placeWasF ni z)) ∧ M' mb = .inr (12, modF ad mb (s_X13_counter_2_1 mv ni z)) ∧ ∀ q : Nat, q ≠ mb + 18 → q ≠ mb + 29 → q ≠ mb → M' q = M q) := by
  refine q_body (cc := cX13_counter) (maxL := 10) (ret := (some .int)) (by decide) rfl (Nat.le_of_ble_eq_true rfl) ?_
  intro p e s m args below meth c ls X hr hlocks hK hP hl
  obtain ⟨hx, hb, hml, hown, hts⟩ := id X
  have hS : va_S (ipA ad n) s.heap s.heap [] := va_S.rf
  have hl : lv_has ls 10 [(0, .ref (ad mb)), (1, .int x), (2, .int (nI ni)), (3, .int z)] := hl
  refine lv_aload_n hx hb dX13_counter_0 rfl (lv_at hl 0 rfl) ?_
  refine lv_iconst (v := 0) hx hb dX13_counter_1 (by decide) ?_
  refine q_put (fs := modF ad mb mv) (fs' := modF ad mb (upd mv 2 0)) X hK hI hP hS fX13_counter_173 fw_12_2 h_mb m_mb rfl rfl (Nat.le_of_ble_eq_true rfl) rfl dX13_counter_2 (fun H locs hP hS => ?_)
  refine lv_iload_n hx hb dX13_counter_5 rfl (lv_at hl 3 rfl) ?_
  refine lv_if_lt (tgt := 14) hx hb dX13_counter_6 (by decide) (fun c_6 => ?_) (fun c_6 => ?_)
  · skip
    refine lv_aload_n hx hb dX13_counter_14 rfl (lv_at hl 0 rfl) ?_
    refine lv_iconst (v := 1) hx hb dX13_counter_15 (by decide) ?_
    refine q_wrVi (As := [.int 1]) (rest := []) (c_X13_fail l D cB cI cJ ad n (va_up M mb (.inr (12, modF ad mb (upd mv 2 0)))) hI mb (upd mv 2 0) 1 h_mb (va_up_self M mb (.inr (12, modF ad mb (upd mv 2 0)))) ) X hK hP hS hl.1 rfl gX13_counter_X13_fail yd_X13_fail ⟨Nat.le_of_ble_eq_true rfl, Nat.le_of_ble_eq_true rfl⟩ h_mb (va_up_self M mb (.inr (12, modF ad mb (upd mv 2 0)))) (ci := 12) rfl rfl (Nat.le_of_ble_eq_true rfl) ⟨Nat.zero_le _, Nat.zero_le _⟩ dX13_counter_16 (fun r5 M4 H locs hp3 hP hS => ?_)
    obtain ⟨rfl, g6, fr7⟩ := hp3
    exact q_wzret X hr hlocks hP hS (rfl) ⟨(by rw [s_X13_counter, if_pos c_6]), (by rw [s_X13_counter_0_f, if_pos c_6]; exact ((fr7 (mb + 18) (by omega)).trans ((va_up_ne M (.inr (12, modF ad mb (upd mv 2 0))) (show mb + 18 ≠ mb by omega)).trans m_mb_18))), (by rw [s_X13_counter_1_f, if_pos c_6]; exact ((fr7 (mb + 29) (by omega)).trans ((va_up_ne M (.inr (12, modF ad mb (upd mv 2 0))) (show mb + 29 ≠ mb by omega)).trans m_mb_29))), (by rw [s_X13_counter_2_1, if_pos c_6]; exact g6), (fun q n0 n1 n2 => ((fr7 q n2).trans (va_up_ne _ _ n2)))⟩ dX13_counter_19
  · skip
    refine lv_iload_n hx hb dX13_counter_9 rfl (lv_at hl 3 rfl) ?_
    refine lv_iconst (v := 1) hx hb dX13_counter_10 (by decide) ?_
    refine lv_icmp_le (tgt := 20) hx hb dX13_counter_11 (by decide) (fun c_11 => ?_) (fun c_11 => ?_)
    · skip
      refine lv_iload_n hx hb dX13_counter_20 rfl (lv_at hl 2 rfl) ?_
      refine lv_i2l hx hb dX13_counter_21 rfl ?_
      refine lv_lconst (v := 0) hx hb dX13_counter_22 (by decide) ?_
      refine lv_ldc2 (v := 200) hx hb hown (hts _ (by decide +kernel)) dX13_counter_23 ?_
      refine q_rdS (As := [.long ((nI ni).toInt64), .long 0, .long 200]) (rest := []) (c_X13_isIn l D cB cI cJ ad n (va_up M mb (.inr (12, modF ad mb (upd mv 2 0)))) ((nI ni).toInt64) 0 200   ) X hK hP hS hl.1 rfl gX13_counter_X13_isIn yd_X13_isIn ⟨Nat.le_of_ble_eq_true rfl, Nat.le_of_ble_eq_true rfl⟩ rfl (Nat.le_of_ble_eq_true rfl) ⟨Nat.zero_le _, Nat.zero_le _⟩ dX13_counter_26 ?_
      refine lv_if_ne (tgt := 38) hx hb dX13_counter_29 (by decide) (fun c_29 => ?_) (fun c_29 => ?_)
      · skip
        refine lv_iconst (v := 0) hx hb dX13_counter_38 (by decide) ?_
        refine lv_istore (lv' := [(4, .int 0), (0, .ref (ad mb)), (1, .int x), (2, .int (nI ni)), (3, .int z)]) hx hb dX13_counter_39 hl (by decide) rfl (fun ls hl => ?_)
        have loop_41 : ∀ (fuel : Nat) (t41 : Nat) (y41_0 : Nat → Int32), nt - (t41) < fuel → t41 ≤ nt → y41_0 = (s_X13_counter_41 placeF placeWasF t41) → ∀ (ML41 : Nat → va_E) (H : Heap) (locs : List Loc), ML41 (mb + 29) = .inl (cI, 12, .inl y41_0) → (∀ q : Nat, q ≠ mb + 29 → ML41 q = va_up M mb (.inr (12, modF ad mb (upd mv 2 0))) q) → va_P D vwCl (ip ad n ML41) H → va_S (ipA ad n) s.heap H locs → ∀ (ls : Array Slot), lv_has ls 10 [(4, .int (nI t41)), (0, .ref (ad mb)), (1, .int x), (2, .int (nI ni)), (3, .int z)] → W p l e (rmOf 3 68) s m args below meth c H locs 0 0 (MQ below (va_Qi (fun r M' => r = s_X13_counter nt nc nq toldF pocketsF bearsF limitF holdsF boardF kindF heavyF wideF hotF placeF postToF priceF ni x z ∧ M' (mb + 18) = .inl (cI, 24, .inl (s_X13_counter_0_f nt nc nq toldF pocketsF bearsF limitF holdsF boardF kindF heavyF wideF hotF placeF postToF priceF placeWasF ni x z)) ∧ M' (mb + 29) = .inl (cI, 12, .inl (s_X13_counter_1_f nt placeF placeWasF ni z)) ∧ M' mb = .inr (12, modF ad mb (s_X13_counter_2_1 mv ni z)) ∧ ∀ q : Nat, q ≠ mb + 18 → q ≠ mb + 29 → q ≠ mb → M' q = M q) (fun M' t => va_P D vwCl (ip ad n M') t.heap) (ipA ad n)) args s 0 0 (ipA ad n)) (F0 m 41 ls []) := by
          intro fuel
          induction fuel with
          | zero =>
            intro t41 y41_0 hz
            exact absurd hz (Nat.not_lt_zero _)
          | succ fuel ih_41 =>
            intro t41 y41_0 hz_41 h_t41 e_y41_0 ML41 H locs mL41_0 fL41 hP hS ls hl
            skip
            refine lv_iload hx hb dX13_counter_41 (lv_at hl 0 rfl) ?_
            refine lv_aload_n hx hb dX13_counter_43 rfl (lv_at hl 1 rfl) ?_
            refine q_get (v := .ref (ad (mb + 3))) (fs := modF ad mb (upd mv 2 0)) X hK hP fX13_counter_40 h_mb ((fL41 mb (by omega)).trans (va_up_self M mb (.inr (12, modF ad mb (upd mv 2 0))))) rfl dX13_counter_44 ?_
            refine lv_iconst (v := 2) hx hb dX13_counter_47 (by decide) ?_
            refine q_ialdN (f := toldF) (k := 14) X hK hP 2 h_mb_3 ((fL41 (mb + 3) (by omega)).trans ((va_up_ne M (.inr (12, modF ad mb (upd mv 2 0))) (show mb + 3 ≠ mb by omega)).trans m_mb_3)) (by decide) (by decide) dX13_counter_48 ?_
            refine lv_icmp_ge (tgt := 72) hx hb dX13_counter_49 (by decide) (fun c_49 => ?_) (fun c_49 => ?_)
            · rw [k2] at c_49
              have h9_41 : t41 = nt := eq_of_le (t := t41) (k := nt) c_49 (by omega) h_t41
              subst t41
              subst e_y41_0
              refine lv_iload_n hx hb dX13_counter_72 rfl (lv_at hl 2 rfl) ?_
              refine lv_istore (lv' := [(4, .int x), (0, .ref (ad mb)), (1, .int x), (2, .int (nI ni)), (3, .int z)]) hx hb dX13_counter_73 hl (by decide) rfl (fun ls hl => ?_)
              refine lv_iconst (v := 0) hx hb dX13_counter_75 (by decide) ?_
              refine lv_istore (lv' := [(5, .int 0), (4, .int x), (0, .ref (ad mb)), (1, .int x), (2, .int (nI ni)), (3, .int z)]) hx hb dX13_counter_76 hl (by decide) rfl (fun ls hl => ?_)
              refine lv_iconst (v := 0) hx hb dX13_counter_78 (by decide) ?_
              refine lv_istore (lv' := [(6, .int 0), (5, .int 0), (4, .int x), (0, .ref (ad mb)), (1, .int x), (2, .int (nI ni)), (3, .int z)]) hx hb dX13_counter_79 hl (by decide) rfl (fun ls hl => ?_)
              refine lv_iconst (v := 0) hx hb dX13_counter_81 (by decide) ?_
              refine lv_istore (lv' := [(7, .int 0), (6, .int 0), (5, .int 0), (4, .int x), (0, .ref (ad mb)), (1, .int x), (2, .int (nI ni)), (3, .int z)]) hx hb dX13_counter_82 hl (by decide) rfl (fun ls hl => ?_)
              have loop_84 : ∀ (fuel : Nat) (t84 : Nat) (x84_6 : Int32) (x84_5 : Int32) (x84_4 : Int32) (y84_0 : Nat → Int32), ni - (t84) < fuel → t84 ≤ ni → x84_6 = (s_X13_counter_84 nt nc nq toldF pocketsF bearsF limitF holdsF boardF kindF heavyF wideF hotF postToF priceF 0 0 x placeF t84).1 → x84_5 = (s_X13_counter_84 nt nc nq toldF pocketsF bearsF limitF holdsF boardF kindF heavyF wideF hotF postToF priceF 0 0 x placeF t84).2.1 → x84_4 = (s_X13_counter_84 nt nc nq toldF pocketsF bearsF limitF holdsF boardF kindF heavyF wideF hotF postToF priceF 0 0 x placeF t84).2.2.1 → y84_0 = (s_X13_counter_84 nt nc nq toldF pocketsF bearsF limitF holdsF boardF kindF heavyF wideF hotF postToF priceF 0 0 x placeF t84).2.2.2 → ∀ (ML84 : Nat → va_E) (H : Heap) (locs : List Loc), ML84 (mb + 18) = .inl (cI, 24, .inl y84_0) → (∀ q : Nat, q ≠ mb + 18 → ML84 q = ML41 q) → va_P D vwCl (ip ad n ML84) H → va_S (ipA ad n) s.heap H locs → ∀ (ls : Array Slot), lv_has ls 10 [(7, .int (nI t84)), (6, .int x84_6), (5, .int x84_5), (4, .int x84_4), (0, .ref (ad mb)), (1, .int x), (2, .int (nI ni)), (3, .int z)] → W p l e (rmOf 3 68) s m args below meth c H locs 0 0 (MQ below (va_Qi (fun r M' => r = s_X13_counter nt nc nq toldF pocketsF bearsF limitF holdsF boardF kindF heavyF wideF hotF placeF postToF priceF ni x z ∧ M' (mb + 18) = .inl (cI, 24, .inl (s_X13_counter_0_f nt nc nq toldF pocketsF bearsF limitF holdsF boardF kindF heavyF wideF hotF placeF postToF priceF placeWasF ni x z)) ∧ M' (mb + 29) = .inl (cI, 12, .inl (s_X13_counter_1_f nt placeF placeWasF ni z)) ∧ M' mb = .inr (12, modF ad mb (s_X13_counter_2_1 mv ni z)) ∧ ∀ q : Nat, q ≠ mb + 18 → q ≠ mb + 29 → q ≠ mb → M' q = M q) (fun M' t => va_P D vwCl (ip ad n M') t.heap) (ipA ad n)) args s 0 0 (ipA ad n)) (F0 m 84 ls []) := by
                intro fuel
                induction fuel with
                | zero =>
                  intro t84 x84_6 x84_5 x84_4 y84_0 hz
                  exact absurd hz (Nat.not_lt_zero _)
                | succ fuel ih_84 =>
                  intro t84 x84_6 x84_5 x84_4 y84_0 hz_84 h_t84 e_x84_6 e_x84_5 e_x84_4 e_y84_0 ML84 H locs mL84_0 fL84 hP hS ls hl
                  skip
                  refine lv_iload hx hb dX13_counter_84 (lv_at hl 0 rfl) ?_
                  refine lv_iload_n hx hb dX13_counter_86 rfl (lv_at hl 6 rfl) ?_
                  refine lv_icmp_ge (tgt := 228) hx hb dX13_counter_87 (by decide) (fun c_87 => ?_) (fun c_87 => ?_)
                  · skip
                    have h9_84 : t84 = ni := eq_of_le (t := t84) (k := ni) c_87 (by omega) h_t84
                    subst t84
                    subst e_x84_6
                    subst e_x84_5
                    subst e_x84_4
                    subst e_y84_0
                    refine lv_iconst (v := 0) hx hb dX13_counter_228 (by decide) ?_
                    refine lv_istore (lv' := [(7, .int 0), (6, .int ((s_X13_counter_84 nt nc nq toldF pocketsF bearsF limitF holdsF boardF kindF heavyF wideF hotF postToF priceF 0 0 x placeF ni).1)), (5, .int ((s_X13_counter_84 nt nc nq toldF pocketsF bearsF limitF holdsF boardF kindF heavyF wideF hotF postToF priceF 0 0 x placeF ni).2.1)), (4, .int ((s_X13_counter_84 nt nc nq toldF pocketsF bearsF limitF holdsF boardF kindF heavyF wideF hotF postToF priceF 0 0 x placeF ni).2.2.1)), (0, .ref (ad mb)), (1, .int x), (2, .int (nI ni)), (3, .int z)]) hx hb dX13_counter_229 hl (by decide) rfl (fun ls hl => ?_)
                    have loop_231 : ∀ (fuel : Nat) (t231 : Nat) (y231_0 : Nat → Int32), nt - (t231) < fuel → t231 ≤ nt → y231_0 = (s_X13_counter_231 nt placeF placeWasF ((s_X13_counter_84 nt nc nq toldF pocketsF bearsF limitF holdsF boardF kindF heavyF wideF hotF postToF priceF 0 0 x placeF ni).2.2.2) t231) → ∀ (ML231 : Nat → va_E) (H : Heap) (locs : List Loc), ML231 (mb + 18) = .inl (cI, 24, .inl y231_0) → (∀ q : Nat, q ≠ mb + 18 → ML231 q = ML84 q) → va_P D vwCl (ip ad n ML231) H → va_S (ipA ad n) s.heap H locs → ∀ (ls : Array Slot), lv_has ls 10 [(7, .int (nI t231)), (6, .int ((s_X13_counter_84 nt nc nq toldF pocketsF bearsF limitF holdsF boardF kindF heavyF wideF hotF postToF priceF 0 0 x placeF ni).1)), (5, .int ((s_X13_counter_84 nt nc nq toldF pocketsF bearsF limitF holdsF boardF kindF heavyF wideF hotF postToF priceF 0 0 x placeF ni).2.1)), (4, .int ((s_X13_counter_84 nt nc nq toldF pocketsF bearsF limitF holdsF boardF kindF heavyF wideF hotF postToF priceF 0 0 x placeF ni).2.2.1)), (0, .ref (ad mb)), (1, .int x), (2, .int (nI ni)), (3, .int z)] → W p l e (rmOf 3 68) s m args below meth c H locs 0 0 (MQ below (va_Qi (fun r M' => r = s_X13_counter nt nc nq toldF pocketsF bearsF limitF holdsF boardF kindF heavyF wideF hotF placeF postToF priceF ni x z ∧ M' (mb + 18) = .inl (cI, 24, .inl (s_X13_counter_0_f nt nc nq toldF pocketsF bearsF limitF holdsF boardF kindF heavyF wideF hotF placeF postToF priceF placeWasF ni x z)) ∧ M' (mb + 29) = .inl (cI, 12, .inl (s_X13_counter_1_f nt placeF placeWasF ni z)) ∧ M' mb = .inr (12, modF ad mb (s_X13_counter_2_1 mv ni z)) ∧ ∀ q : Nat, q ≠ mb + 18 → q ≠ mb + 29 → q ≠ mb → M' q = M q) (fun M' t => va_P D vwCl (ip ad n M') t.heap) (ipA ad n)) args s 0 0 (ipA ad n)) (F0 m 231 ls []) := by
                      intro fuel
                      induction fuel with
                      | zero =>
                        intro t231 y231_0 hz
                        exact absurd hz (Nat.not_lt_zero _)
                      | succ fuel ih_231 =>
                        intro t231 y231_0 hz_231 h_t231 e_y231_0 ML231 H locs mL231_0 fL231 hP hS ls hl
                        skip
                        refine lv_iload hx hb dX13_counter_231 (lv_at hl 0 rfl) ?_
                        refine lv_aload_n hx hb dX13_counter_233 rfl (lv_at hl 4 rfl) ?_
                        refine q_get (v := .ref (ad (mb + 3))) (fs := modF ad mb (upd mv 2 0)) X hK hP fX13_counter_40 h_mb ((fL231 mb (by omega)).trans ((fL84 mb (by omega)).trans ((fL41 mb (by omega)).trans (va_up_self M mb (.inr (12, modF ad mb (upd mv 2 0))))))) rfl dX13_counter_234 ?_
                        refine lv_iconst (v := 2) hx hb dX13_counter_237 (by decide) ?_
                        refine q_ialdN (f := toldF) (k := 14) X hK hP 2 h_mb_3 ((fL231 (mb + 3) (by omega)).trans ((fL84 (mb + 3) (by omega)).trans ((fL41 (mb + 3) (by omega)).trans ((va_up_ne M (.inr (12, modF ad mb (upd mv 2 0))) (show mb + 3 ≠ mb by omega)).trans m_mb_3)))) (by decide) (by decide) dX13_counter_238 ?_
                        refine lv_icmp_ge (tgt := 262) hx hb dX13_counter_239 (by decide) (fun c_239 => ?_) (fun c_239 => ?_)
                        · rw [k2] at c_239
                          have h9_231 : t231 = nt := eq_of_le (t := t231) (k := nt) c_239 (by omega) h_t231
                          subst t231
                          subst e_y231_0
                          refine lv_iload_n hx hb dX13_counter_262 rfl (lv_at hl 7 rfl) ?_
                          refine lv_if_ne (tgt := 271) hx hb dX13_counter_263 (by decide) (fun c_263 => ?_) (fun c_263 => ?_)
                          · skip
                            refine lv_iload hx hb dX13_counter_271 (lv_at hl 1 rfl) ?_
                            exact q_wzret X hr hlocks hP hS (rfl) ⟨(by rw [s_X13_counter, if_neg c_6, if_pos c_11, if_neg c_29, if_neg c_263]), (by rw [s_X13_counter_0_f, if_neg c_6, if_pos c_11, if_neg c_29, if_neg c_263]; exact mL231_0), (by rw [s_X13_counter_1_f, if_neg c_6, if_pos c_11, if_neg c_29, if_neg c_263]; exact ((fL231 (mb + 29) (by omega)).trans ((fL84 (mb + 29) (by omega)).trans mL41_0))), (by rw [s_X13_counter_2_1, if_neg c_6, if_pos c_11, if_neg c_29, if_neg c_263]; exact ((fL231 mb (by omega)).trans ((fL84 mb (by omega)).trans ((fL41 mb (by omega)).trans (va_up_self M mb (.inr (12, modF ad mb (upd mv 2 0)))))))), (fun q n0 n1 n2 => ((fL231 q n0).trans ((fL84 q n0).trans ((fL41 q n1).trans (va_up_ne _ _ n2)))))⟩ dX13_counter_273
                          · skip
                            refine lv_iload hx hb dX13_counter_266 (lv_at hl 2 rfl) ?_
                            refine lv_goto (tgt := 273) hx hb dX13_counter_268 (by decide) ?_
                            exact q_wzret X hr hlocks hP hS (rfl) ⟨(by rw [s_X13_counter, if_neg c_6, if_pos c_11, if_neg c_29, if_pos c_263]), (by rw [s_X13_counter_0_f, if_neg c_6, if_pos c_11, if_neg c_29, if_pos c_263]; exact mL231_0), (by rw [s_X13_counter_1_f, if_neg c_6, if_pos c_11, if_neg c_29, if_pos c_263]; exact ((fL231 (mb + 29) (by omega)).trans ((fL84 (mb + 29) (by omega)).trans mL41_0))), (by rw [s_X13_counter_2_1, if_neg c_6, if_pos c_11, if_neg c_29, if_pos c_263]; exact ((fL231 mb (by omega)).trans ((fL84 mb (by omega)).trans ((fL41 mb (by omega)).trans (va_up_self M mb (.inr (12, modF ad mb (upd mv 2 0)))))))), (fun q n0 n1 n2 => ((fL231 q n0).trans ((fL84 q n0).trans ((fL41 q n1).trans (va_up_ne _ _ n2)))))⟩ dX13_counter_273
                        · rw [k2] at c_239
                          have h9_231 : t231 < nt := lt_of_nlt (t := t231) (k := nt) c_239 (by omega) h_t231
                          refine lv_aload_n hx hb dX13_counter_242 rfl (lv_at hl 4 rfl) ?_
                          refine q_get (v := .ref (ad (mb + 18))) (fs := modF ad mb (upd mv 2 0)) X hK hP fX13_counter_84 h_mb ((fL231 mb (by omega)).trans ((fL84 mb (by omega)).trans ((fL41 mb (by omega)).trans (va_up_self M mb (.inr (12, modF ad mb (upd mv 2 0))))))) rfl dX13_counter_243 ?_
                          refine lv_iload hx hb dX13_counter_246 (lv_at hl 0 rfl) ?_
                          refine lv_aload_n hx hb dX13_counter_248 rfl (lv_at hl 4 rfl) ?_
                          refine q_get (v := .ref (ad (mb + 29))) (fs := modF ad mb (upd mv 2 0)) X hK hP fX13_counter_121 h_mb ((fL231 mb (by omega)).trans ((fL84 mb (by omega)).trans ((fL41 mb (by omega)).trans (va_up_self M mb (.inr (12, modF ad mb (upd mv 2 0))))))) rfl dX13_counter_249 ?_
                          refine lv_iload hx hb dX13_counter_252 (lv_at hl 0 rfl) ?_
                          refine q_ialdN (f := (s_X13_counter_41 placeF placeWasF nt)) (k := 12) X hK hP t231 h_mb_29 ((fL231 (mb + 29) (by omega)).trans ((fL84 (mb + 29) (by omega)).trans mL41_0)) (by omega) (by decide) dX13_counter_254 ?_
                          refine q_iastN (f := y231_0) (k := 24) X hK hI hP hS t231 h_mb_18 mL231_0 (by omega) (by decide) dX13_counter_255 (fun H locs hP hS => ?_)
                          refine lv_iinc (v := ((nI t231) + 1)) (lv' := [(7, .int ((nI t231) + 1)), (6, .int ((s_X13_counter_84 nt nc nq toldF pocketsF bearsF limitF holdsF boardF kindF heavyF wideF hotF postToF priceF 0 0 x placeF ni).1)), (5, .int ((s_X13_counter_84 nt nc nq toldF pocketsF bearsF limitF holdsF boardF kindF heavyF wideF hotF postToF priceF 0 0 x placeF ni).2.1)), (4, .int ((s_X13_counter_84 nt nc nq toldF pocketsF bearsF limitF holdsF boardF kindF heavyF wideF hotF postToF priceF 0 0 x placeF ni).2.2.1)), (0, .ref (ad mb)), (1, .int x), (2, .int (nI ni)), (3, .int z)]) hx hb dX13_counter_256 hl (k := 0) rfl rfl (by decide) rfl (fun ls hl => ?_)
                          refine lv_goto (tgt := 231) hx hb dX13_counter_259 (by decide) ?_
                          exact ih_231 (t231 + 1) (upd y231_0 t231 ((s_X13_counter_41 placeF placeWasF nt) t231)) (by omega) (by omega) (by rw [s_X13_counter_231, ← e_y231_0, s_X13_counter_231s]) _ _ _ (va_up_self ML231 (mb + 18) (.inl (cI, 24, .inl (upd y231_0 t231 ((s_X13_counter_41 placeF placeWasF nt) t231))))) (fun q n0 => ((va_up_ne _ _ n0).trans (fL231 q n0))) hP hS ls (by rw [(show nI (t231 + 1) = nI t231 + 1 by exact nI_succ _)]; exact lv_sub hl [0, 1, 2, 3, 4, 5, 6, 7] rfl)
                    exact loop_231 (nt + 1) 0 ((s_X13_counter_84 nt nc nq toldF pocketsF bearsF limitF holdsF boardF kindF heavyF wideF hotF postToF priceF 0 0 x placeF ni).2.2.2) (by omega) (by omega) (by rfl) _ _ _ mL84_0 (fun q n0 => rfl) hP hS ls (lv_sub hl [0, 1, 2, 3, 4, 5, 6, 7] rfl)
                  · skip
                    have h9_84 : t84 < ni := lt_of_nlt (t := t84) (k := ni) c_87 (by omega) h_t84
                    refine lv_aload_n hx hb dX13_counter_90 rfl (lv_at hl 4 rfl) ?_
                    refine q_get (v := .ref (ad (mb + 3))) (fs := modF ad mb (upd mv 2 0)) X hK hP fX13_counter_40 h_mb ((fL84 mb (by omega)).trans ((fL41 mb (by omega)).trans (va_up_self M mb (.inr (12, modF ad mb (upd mv 2 0)))))) rfl dX13_counter_91 ?_
                    refine lv_iconst (v := 2) hx hb dX13_counter_94 (by decide) ?_
                    refine q_ialdN (f := toldF) (k := 14) X hK hP 2 h_mb_3 ((fL84 (mb + 3) (by omega)).trans ((fL41 (mb + 3) (by omega)).trans ((va_up_ne M (.inr (12, modF ad mb (upd mv 2 0))) (show mb + 3 ≠ mb by omega)).trans m_mb_3))) (by decide) (by decide) dX13_counter_95 ?_
                    refine lv_if_le (tgt := 228) hx hb dX13_counter_96 (by decide) (fun c_96 => ?_) (fun c_96 => ?_)
                    · exact absurd (k2 ▸ c_96) (nI_nle h0t (by omega))
                    · skip
                      refine lv_aload_n hx hb dX13_counter_99 rfl (lv_at hl 4 rfl) ?_
                      refine q_get (v := .ref (ad (mb + 3))) (fs := modF ad mb (upd mv 2 0)) X hK hP fX13_counter_40 h_mb ((fL84 mb (by omega)).trans ((fL41 mb (by omega)).trans (va_up_self M mb (.inr (12, modF ad mb (upd mv 2 0)))))) rfl dX13_counter_100 ?_
                      refine lv_iconst (v := 1) hx hb dX13_counter_103 (by decide) ?_
                      refine q_ialdN (f := toldF) (k := 14) X hK hP 1 h_mb_3 ((fL84 (mb + 3) (by omega)).trans ((fL41 (mb + 3) (by omega)).trans ((va_up_ne M (.inr (12, modF ad mb (upd mv 2 0))) (show mb + 3 ≠ mb by omega)).trans m_mb_3))) (by decide) (by decide) dX13_counter_104 ?_
                      refine lv_if_le (tgt := 228) hx hb dX13_counter_105 (by decide) (fun c_105 => ?_) (fun c_105 => ?_)
                      · exact absurd (k1 ▸ c_105) (nI_nle h0c (by omega))
                      · skip
                        refine lv_iload hx hb dX13_counter_108 (lv_at hl 3 rfl) ?_
                        refine lv_ldcw (v := 1103515245) hx hb hown (hts _ (by decide +kernel)) dX13_counter_110 ?_
                        refine lv_imul hx hb dX13_counter_113 ?_
                        refine lv_sipush (v := 12345) hx hb dX13_counter_114 (by decide) ?_
                        refine lv_iadd hx hb dX13_counter_117 ?_
                        refine lv_istore (lv' := [(4, .int ((x84_4 * 1103515245) + 12345)), (7, .int (nI t84)), (6, .int x84_6), (5, .int x84_5), (0, .ref (ad mb)), (1, .int x), (2, .int (nI ni)), (3, .int z)]) hx hb dX13_counter_118 hl (by decide) rfl (fun ls hl => ?_)
                        refine lv_iload hx hb dX13_counter_120 (lv_at hl 0 rfl) ?_
                        refine lv_bipush (v := 16) hx hb dX13_counter_122 (by decide) ?_
                        refine lv_ishr hx hb dX13_counter_124 ?_
                        refine lv_sipush (v := 32767) hx hb dX13_counter_125 (by decide) ?_
                        refine lv_iand hx hb dX13_counter_128 ?_
                        refine lv_aload_n hx hb dX13_counter_129 rfl (lv_at hl 4 rfl) ?_
                        refine q_get (v := .ref (ad (mb + 3))) (fs := modF ad mb (upd mv 2 0)) X hK hP fX13_counter_40 h_mb ((fL84 mb (by omega)).trans ((fL41 mb (by omega)).trans (va_up_self M mb (.inr (12, modF ad mb (upd mv 2 0)))))) rfl dX13_counter_130 ?_
                        refine lv_iconst (v := 2) hx hb dX13_counter_133 (by decide) ?_
                        refine q_ialdN (f := toldF) (k := 14) X hK hP 2 h_mb_3 ((fL84 (mb + 3) (by omega)).trans ((fL41 (mb + 3) (by omega)).trans ((va_up_ne M (.inr (12, modF ad mb (upd mv 2 0))) (show mb + 3 ≠ mb by omega)).trans m_mb_3))) (by decide) (by decide) dX13_counter_134 ?_
                        refine lv_irem hx hb dX13_counter_135 (ne_of_nI k2 h0t (by omega)) ?_
                        refine lv_istore (lv' := [(8, .int (((((x84_4 * 1103515245) + 12345) >>> ((16 : Int32) &&& 31)) &&& 32767) - ((((x84_4 * 1103515245) + 12345) >>> ((16 : Int32) &&& 31)) &&& 32767) / (toldF 2) * (toldF 2))), (4, .int ((x84_4 * 1103515245) + 12345)), (7, .int (nI t84)), (6, .int x84_6), (5, .int x84_5), (0, .ref (ad mb)), (1, .int x), (2, .int (nI ni)), (3, .int z)]) hx hb dX13_counter_136 hl (by decide) rfl (fun ls hl => ?_)
                        refine lv_iload hx hb dX13_counter_138 (lv_at hl 1 rfl) ?_
                        refine lv_ldcw (v := 1103515245) hx hb hown (hts _ (by decide +kernel)) dX13_counter_140 ?_
                        refine lv_imul hx hb dX13_counter_143 ?_
                        refine lv_sipush (v := 12345) hx hb dX13_counter_144 (by decide) ?_
                        refine lv_iadd hx hb dX13_counter_147 ?_
                        refine lv_istore (lv' := [(4, .int ((((x84_4 * 1103515245) + 12345) * 1103515245) + 12345)), (8, .int (((((x84_4 * 1103515245) + 12345) >>> ((16 : Int32) &&& 31)) &&& 32767) - ((((x84_4 * 1103515245) + 12345) >>> ((16 : Int32) &&& 31)) &&& 32767) / (toldF 2) * (toldF 2))), (7, .int (nI t84)), (6, .int x84_6), (5, .int x84_5), (0, .ref (ad mb)), (1, .int x), (2, .int (nI ni)), (3, .int z)]) hx hb dX13_counter_148 hl (by decide) rfl (fun ls hl => ?_)
                        refine lv_iload hx hb dX13_counter_150 (lv_at hl 0 rfl) ?_
                        refine lv_bipush (v := 16) hx hb dX13_counter_152 (by decide) ?_
                        refine lv_ishr hx hb dX13_counter_154 ?_
                        refine lv_sipush (v := 32767) hx hb dX13_counter_155 (by decide) ?_
                        refine lv_iand hx hb dX13_counter_158 ?_
                        refine lv_aload_n hx hb dX13_counter_159 rfl (lv_at hl 5 rfl) ?_
                        refine q_get (v := .ref (ad (mb + 3))) (fs := modF ad mb (upd mv 2 0)) X hK hP fX13_counter_40 h_mb ((fL84 mb (by omega)).trans ((fL41 mb (by omega)).trans (va_up_self M mb (.inr (12, modF ad mb (upd mv 2 0)))))) rfl dX13_counter_160 ?_
                        refine lv_iconst (v := 1) hx hb dX13_counter_163 (by decide) ?_
                        refine q_ialdN (f := toldF) (k := 14) X hK hP 1 h_mb_3 ((fL84 (mb + 3) (by omega)).trans ((fL41 (mb + 3) (by omega)).trans ((va_up_ne M (.inr (12, modF ad mb (upd mv 2 0))) (show mb + 3 ≠ mb by omega)).trans m_mb_3))) (by decide) (by decide) dX13_counter_164 ?_
                        refine lv_irem hx hb dX13_counter_165 (ne_of_nI k1 h0c (by omega)) ?_
                        refine lv_istore (lv' := [(9, .int (((((((x84_4 * 1103515245) + 12345) * 1103515245) + 12345) >>> ((16 : Int32) &&& 31)) &&& 32767) - ((((((x84_4 * 1103515245) + 12345) * 1103515245) + 12345) >>> ((16 : Int32) &&& 31)) &&& 32767) / (toldF 1) * (toldF 1))), (4, .int ((((x84_4 * 1103515245) + 12345) * 1103515245) + 12345)), (8, .int (((((x84_4 * 1103515245) + 12345) >>> ((16 : Int32) &&& 31)) &&& 32767) - ((((x84_4 * 1103515245) + 12345) >>> ((16 : Int32) &&& 31)) &&& 32767) / (toldF 2) * (toldF 2))), (7, .int (nI t84)), (6, .int x84_6), (5, .int x84_5), (0, .ref (ad mb)), (1, .int x), (2, .int (nI ni)), (3, .int z)]) hx hb dX13_counter_166 hl (by decide) rfl (fun ls hl => ?_)
                        refine lv_aload_n hx hb dX13_counter_168 rfl (lv_at hl 6 rfl) ?_
                        refine lv_aload_n hx hb dX13_counter_169 rfl (lv_at hl 6 rfl) ?_
                        refine q_get (v := .ref (ad (mb + 18))) (fs := modF ad mb (upd mv 2 0)) X hK hP fX13_counter_84 h_mb ((fL84 mb (by omega)).trans ((fL41 mb (by omega)).trans (va_up_self M mb (.inr (12, modF ad mb (upd mv 2 0)))))) rfl dX13_counter_170 ?_
                        refine lv_iload hx hb dX13_counter_173 (lv_at hl 2 rfl) ?_
                        refine q_iald (f := y84_0) (k := 24) X hK hP h_mb_18 mL84_0 (rem_vp k2 h0t (by omega) (by decide)) dX13_counter_175 ?_
                        refine q_rdV (As := [.int (y84_0 (((((x84_4 * 1103515245) + 12345) >>> ((16 : Int32) &&& 31)) &&& 32767) - ((((x84_4 * 1103515245) + 12345) >>> ((16 : Int32) &&& 31)) &&& 32767) / (toldF 2) * (toldF 2)).toNatClampNeg)]) (rest := []) (c_X13_isCase l D cB cI cJ ad n ML84 mb nt nc np nq (upd mv 2 0) toldF (y84_0 (((((x84_4 * 1103515245) + 12345) >>> ((16 : Int32) &&& 31)) &&& 32767) - ((((x84_4 * 1103515245) + 12345) >>> ((16 : Int32) &&& 31)) &&& 32767) / (toldF 2) * (toldF 2)).toNatClampNeg) h_mb h_mb_3 ((fL84 mb (by omega)).trans ((fL41 mb (by omega)).trans (va_up_self M mb (.inr (12, modF ad mb (upd mv 2 0)))))) ((fL84 (mb + 3) (by omega)).trans ((fL41 (mb + 3) (by omega)).trans ((va_up_ne M (.inr (12, modF ad mb (upd mv 2 0))) (show mb + 3 ≠ mb by omega)).trans m_mb_3))) k0 hnp k1 hnc k2 hnt k3 hnq) X hK hP hS hl.1 rfl gX13_counter_X13_isCase yd_X13_isCase ⟨Nat.le_of_ble_eq_true rfl, Nat.le_of_ble_eq_true rfl⟩ h_mb ((fL84 mb (by omega)).trans ((fL41 mb (by omega)).trans (va_up_self M mb (.inr (12, modF ad mb (upd mv 2 0)))))) (ci := 12) rfl rfl (Nat.le_of_ble_eq_true rfl) ⟨Nat.zero_le _, Nat.zero_le _⟩ dX13_counter_176 ?_
                        refine lv_if_eq (tgt := 205) hx hb dX13_counter_179 (by decide) (fun c_179 => ?_) (fun c_179 => ?_)
                        · skip
                          refine lv_iload hx hb dX13_counter_205 (lv_at hl 4 rfl) ?_
                          refine lv_aload_n hx hb dX13_counter_207 rfl (lv_at hl 6 rfl) ?_
                          refine q_rdV (As := []) (rest := [.int x84_6]) (c_X13_allGo l D cB cI cJ ad n ML84 mb nt nc np nq (upd mv 2 0) toldF limitF kindF heavyF wideF hotF y84_0 h_mb h_mb_3 h_mb_8 h_mb_12 h_mb_13 h_mb_15 h_mb_17 h_mb_18 ((fL84 mb (by omega)).trans ((fL41 mb (by omega)).trans (va_up_self M mb (.inr (12, modF ad mb (upd mv 2 0)))))) ((fL84 (mb + 3) (by omega)).trans ((fL41 (mb + 3) (by omega)).trans ((va_up_ne M (.inr (12, modF ad mb (upd mv 2 0))) (show mb + 3 ≠ mb by omega)).trans m_mb_3))) ((fL84 (mb + 8) (by omega)).trans ((fL41 (mb + 8) (by omega)).trans ((va_up_ne M (.inr (12, modF ad mb (upd mv 2 0))) (show mb + 8 ≠ mb by omega)).trans m_mb_8))) ((fL84 (mb + 12) (by omega)).trans ((fL41 (mb + 12) (by omega)).trans ((va_up_ne M (.inr (12, modF ad mb (upd mv 2 0))) (show mb + 12 ≠ mb by omega)).trans m_mb_12))) ((fL84 (mb + 13) (by omega)).trans ((fL41 (mb + 13) (by omega)).trans ((va_up_ne M (.inr (12, modF ad mb (upd mv 2 0))) (show mb + 13 ≠ mb by omega)).trans m_mb_13))) ((fL84 (mb + 15) (by omega)).trans ((fL41 (mb + 15) (by omega)).trans ((va_up_ne M (.inr (12, modF ad mb (upd mv 2 0))) (show mb + 15 ≠ mb by omega)).trans m_mb_15))) ((fL84 (mb + 17) (by omega)).trans ((fL41 (mb + 17) (by omega)).trans ((va_up_ne M (.inr (12, modF ad mb (upd mv 2 0))) (show mb + 17 ≠ mb by omega)).trans m_mb_17))) mL84_0 k0 hnp k1 hnc k2 hnt k3 hnq) X hK hP hS hl.1 rfl gX13_counter_X13_allGo yd_X13_allGo ⟨Nat.le_of_ble_eq_true rfl, Nat.le_of_ble_eq_true rfl⟩ h_mb ((fL84 mb (by omega)).trans ((fL41 mb (by omega)).trans (va_up_self M mb (.inr (12, modF ad mb (upd mv 2 0)))))) (ci := 12) rfl rfl (Nat.le_of_ble_eq_true rfl) ⟨Nat.zero_le _, Nat.zero_le _⟩ dX13_counter_208 ?_
                          refine lv_if_eq (tgt := 218) hx hb dX13_counter_211 (by decide) (fun c_211 => ?_) (fun c_211 => ?_)
                          · skip
                            refine lv_iconst (v := 0) hx hb dX13_counter_218 (by decide) ?_
                            refine lv_iadd hx hb dX13_counter_219 ?_
                            refine lv_istore (lv' := [(6, .int (x84_6 + 0)), (9, .int (((((((x84_4 * 1103515245) + 12345) * 1103515245) + 12345) >>> ((16 : Int32) &&& 31)) &&& 32767) - ((((((x84_4 * 1103515245) + 12345) * 1103515245) + 12345) >>> ((16 : Int32) &&& 31)) &&& 32767) / (toldF 1) * (toldF 1))), (4, .int ((((x84_4 * 1103515245) + 12345) * 1103515245) + 12345)), (8, .int (((((x84_4 * 1103515245) + 12345) >>> ((16 : Int32) &&& 31)) &&& 32767) - ((((x84_4 * 1103515245) + 12345) >>> ((16 : Int32) &&& 31)) &&& 32767) / (toldF 2) * (toldF 2))), (7, .int (nI t84)), (5, .int x84_5), (0, .ref (ad mb)), (1, .int x), (2, .int (nI ni)), (3, .int z)]) hx hb dX13_counter_220 hl (by decide) rfl (fun ls hl => ?_)
                            refine lv_iinc (v := ((nI t84) + 1)) (lv' := [(7, .int ((nI t84) + 1)), (6, .int (x84_6 + 0)), (9, .int (((((((x84_4 * 1103515245) + 12345) * 1103515245) + 12345) >>> ((16 : Int32) &&& 31)) &&& 32767) - ((((((x84_4 * 1103515245) + 12345) * 1103515245) + 12345) >>> ((16 : Int32) &&& 31)) &&& 32767) / (toldF 1) * (toldF 1))), (4, .int ((((x84_4 * 1103515245) + 12345) * 1103515245) + 12345)), (8, .int (((((x84_4 * 1103515245) + 12345) >>> ((16 : Int32) &&& 31)) &&& 32767) - ((((x84_4 * 1103515245) + 12345) >>> ((16 : Int32) &&& 31)) &&& 32767) / (toldF 2) * (toldF 2))), (5, .int x84_5), (0, .ref (ad mb)), (1, .int x), (2, .int (nI ni)), (3, .int z)]) hx hb dX13_counter_222 hl (k := 4) rfl rfl (by decide) rfl (fun ls hl => ?_)
                            refine lv_goto (tgt := 84) hx hb dX13_counter_225 (by decide) ?_
                            exact ih_84 (t84 + 1) (x84_6 + 0) x84_5 ((((x84_4 * 1103515245) + 12345) * 1103515245) + 12345) y84_0 (by omega) (by omega) (by rw [s_X13_counter_84, ← e_x84_6, ← e_x84_5, ← e_x84_4, ← e_y84_0, s_X13_counter_84s, if_pos c_179, if_pos c_211]) (by rw [s_X13_counter_84, ← e_x84_6, ← e_x84_5, ← e_x84_4, ← e_y84_0, s_X13_counter_84s, if_pos c_179, if_pos c_211]) (by rw [s_X13_counter_84, ← e_x84_6, ← e_x84_5, ← e_x84_4, ← e_y84_0, s_X13_counter_84s, if_pos c_179, if_pos c_211]) (by rw [s_X13_counter_84, ← e_x84_6, ← e_x84_5, ← e_x84_4, ← e_y84_0, s_X13_counter_84s, if_pos c_179, if_pos c_211]) _ _ _ mL84_0 (fun q n0 => (fL84 q n0)) hP hS ls (by rw [(show nI (t84 + 1) = nI t84 + 1 by exact nI_succ _)]; exact lv_sub hl [0, 1, 5, 3, 6, 7, 8, 9] rfl)
                          · skip
                            refine lv_iconst (v := 1) hx hb dX13_counter_214 (by decide) ?_
                            refine lv_goto (tgt := 219) hx hb dX13_counter_215 (by decide) ?_
                            refine lv_iadd hx hb dX13_counter_219 ?_
                            refine lv_istore (lv' := [(6, .int (x84_6 + 1)), (9, .int (((((((x84_4 * 1103515245) + 12345) * 1103515245) + 12345) >>> ((16 : Int32) &&& 31)) &&& 32767) - ((((((x84_4 * 1103515245) + 12345) * 1103515245) + 12345) >>> ((16 : Int32) &&& 31)) &&& 32767) / (toldF 1) * (toldF 1))), (4, .int ((((x84_4 * 1103515245) + 12345) * 1103515245) + 12345)), (8, .int (((((x84_4 * 1103515245) + 12345) >>> ((16 : Int32) &&& 31)) &&& 32767) - ((((x84_4 * 1103515245) + 12345) >>> ((16 : Int32) &&& 31)) &&& 32767) / (toldF 2) * (toldF 2))), (7, .int (nI t84)), (5, .int x84_5), (0, .ref (ad mb)), (1, .int x), (2, .int (nI ni)), (3, .int z)]) hx hb dX13_counter_220 hl (by decide) rfl (fun ls hl => ?_)
                            refine lv_iinc (v := ((nI t84) + 1)) (lv' := [(7, .int ((nI t84) + 1)), (6, .int (x84_6 + 1)), (9, .int (((((((x84_4 * 1103515245) + 12345) * 1103515245) + 12345) >>> ((16 : Int32) &&& 31)) &&& 32767) - ((((((x84_4 * 1103515245) + 12345) * 1103515245) + 12345) >>> ((16 : Int32) &&& 31)) &&& 32767) / (toldF 1) * (toldF 1))), (4, .int ((((x84_4 * 1103515245) + 12345) * 1103515245) + 12345)), (8, .int (((((x84_4 * 1103515245) + 12345) >>> ((16 : Int32) &&& 31)) &&& 32767) - ((((x84_4 * 1103515245) + 12345) >>> ((16 : Int32) &&& 31)) &&& 32767) / (toldF 2) * (toldF 2))), (5, .int x84_5), (0, .ref (ad mb)), (1, .int x), (2, .int (nI ni)), (3, .int z)]) hx hb dX13_counter_222 hl (k := 4) rfl rfl (by decide) rfl (fun ls hl => ?_)
                            refine lv_goto (tgt := 84) hx hb dX13_counter_225 (by decide) ?_
                            exact ih_84 (t84 + 1) (x84_6 + 1) x84_5 ((((x84_4 * 1103515245) + 12345) * 1103515245) + 12345) y84_0 (by omega) (by omega) (by rw [s_X13_counter_84, ← e_x84_6, ← e_x84_5, ← e_x84_4, ← e_y84_0, s_X13_counter_84s, if_pos c_179, if_neg c_211]) (by rw [s_X13_counter_84, ← e_x84_6, ← e_x84_5, ← e_x84_4, ← e_y84_0, s_X13_counter_84s, if_pos c_179, if_neg c_211]) (by rw [s_X13_counter_84, ← e_x84_6, ← e_x84_5, ← e_x84_4, ← e_y84_0, s_X13_counter_84s, if_pos c_179, if_neg c_211]) (by rw [s_X13_counter_84, ← e_x84_6, ← e_x84_5, ← e_x84_4, ← e_y84_0, s_X13_counter_84s, if_pos c_179, if_neg c_211]) _ _ _ mL84_0 (fun q n0 => (fL84 q n0)) hP hS ls (by rw [(show nI (t84 + 1) = nI t84 + 1 by exact nI_succ _)]; exact lv_sub hl [0, 1, 5, 3, 6, 7, 8, 9] rfl)
                        · skip
                          have hv_179 := isCase_vp k1 hnc c_179
                          refine lv_aload_n hx hb dX13_counter_182 rfl (lv_at hl 6 rfl) ?_
                          refine lv_iload hx hb dX13_counter_183 (lv_at hl 2 rfl) ?_
                          refine lv_iload hx hb dX13_counter_185 (lv_at hl 0 rfl) ?_
                          refine q_rdV (As := [.int (((((x84_4 * 1103515245) + 12345) >>> ((16 : Int32) &&& 31)) &&& 32767) - ((((x84_4 * 1103515245) + 12345) >>> ((16 : Int32) &&& 31)) &&& 32767) / (toldF 2) * (toldF 2)), .int (((((((x84_4 * 1103515245) + 12345) * 1103515245) + 12345) >>> ((16 : Int32) &&& 31)) &&& 32767) - ((((((x84_4 * 1103515245) + 12345) * 1103515245) + 12345) >>> ((16 : Int32) &&& 31)) &&& 32767) / (toldF 1) * (toldF 1))]) (rest := []) (c_X13_mayBe l D cB cI cJ ad n ML84 mb nt nc np nq (upd mv 2 0) toldF pocketsF bearsF holdsF boardF kindF heavyF wideF hotF y84_0 postToF priceF (((((x84_4 * 1103515245) + 12345) >>> ((16 : Int32) &&& 31)) &&& 32767) - ((((x84_4 * 1103515245) + 12345) >>> ((16 : Int32) &&& 31)) &&& 32767) / (toldF 2) * (toldF 2)) (((((((x84_4 * 1103515245) + 12345) * 1103515245) + 12345) >>> ((16 : Int32) &&& 31)) &&& 32767) - ((((((x84_4 * 1103515245) + 12345) * 1103515245) + 12345) >>> ((16 : Int32) &&& 31)) &&& 32767) / (toldF 1) * (toldF 1)) h_mb h_mb_3 h_mb_5 h_mb_6 h_mb_9 h_mb_11 h_mb_12 h_mb_13 h_mb_15 h_mb_17 h_mb_18 h_mb_19 h_mb_20 ((fL84 mb (by omega)).trans ((fL41 mb (by omega)).trans (va_up_self M mb (.inr (12, modF ad mb (upd mv 2 0)))))) ((fL84 (mb + 3) (by omega)).trans ((fL41 (mb + 3) (by omega)).trans ((va_up_ne M (.inr (12, modF ad mb (upd mv 2 0))) (show mb + 3 ≠ mb by omega)).trans m_mb_3))) ((fL84 (mb + 5) (by omega)).trans ((fL41 (mb + 5) (by omega)).trans ((va_up_ne M (.inr (12, modF ad mb (upd mv 2 0))) (show mb + 5 ≠ mb by omega)).trans m_mb_5))) ((fL84 (mb + 6) (by omega)).trans ((fL41 (mb + 6) (by omega)).trans ((va_up_ne M (.inr (12, modF ad mb (upd mv 2 0))) (show mb + 6 ≠ mb by omega)).trans m_mb_6))) ((fL84 (mb + 9) (by omega)).trans ((fL41 (mb + 9) (by omega)).trans ((va_up_ne M (.inr (12, modF ad mb (upd mv 2 0))) (show mb + 9 ≠ mb by omega)).trans m_mb_9))) ((fL84 (mb + 11) (by omega)).trans ((fL41 (mb + 11) (by omega)).trans ((va_up_ne M (.inr (12, modF ad mb (upd mv 2 0))) (show mb + 11 ≠ mb by omega)).trans m_mb_11))) ((fL84 (mb + 12) (by omega)).trans ((fL41 (mb + 12) (by omega)).trans ((va_up_ne M (.inr (12, modF ad mb (upd mv 2 0))) (show mb + 12 ≠ mb by omega)).trans m_mb_12))) ((fL84 (mb + 13) (by omega)).trans ((fL41 (mb + 13) (by omega)).trans ((va_up_ne M (.inr (12, modF ad mb (upd mv 2 0))) (show mb + 13 ≠ mb by omega)).trans m_mb_13))) ((fL84 (mb + 15) (by omega)).trans ((fL41 (mb + 15) (by omega)).trans ((va_up_ne M (.inr (12, modF ad mb (upd mv 2 0))) (show mb + 15 ≠ mb by omega)).trans m_mb_15))) ((fL84 (mb + 17) (by omega)).trans ((fL41 (mb + 17) (by omega)).trans ((va_up_ne M (.inr (12, modF ad mb (upd mv 2 0))) (show mb + 17 ≠ mb by omega)).trans m_mb_17))) mL84_0 ((fL84 (mb + 19) (by omega)).trans ((fL41 (mb + 19) (by omega)).trans ((va_up_ne M (.inr (12, modF ad mb (upd mv 2 0))) (show mb + 19 ≠ mb by omega)).trans m_mb_19))) ((fL84 (mb + 20) (by omega)).trans ((fL41 (mb + 20) (by omega)).trans ((va_up_ne M (.inr (12, modF ad mb (upd mv 2 0))) (show mb + 20 ≠ mb by omega)).trans m_mb_20))) k0 hnp k1 hnc k2 hnt k3 hnq (by first | assumption | exact rem_vp k2 h0t (by omega) (by decide))) X hK hP hS hl.1 rfl gX13_counter_X13_mayBe yd_X13_mayBe ⟨Nat.le_of_ble_eq_true rfl, Nat.le_of_ble_eq_true rfl⟩ h_mb ((fL84 mb (by omega)).trans ((fL41 mb (by omega)).trans (va_up_self M mb (.inr (12, modF ad mb (upd mv 2 0)))))) (ci := 12) rfl rfl (Nat.le_of_ble_eq_true rfl) ⟨Nat.zero_le _, Nat.zero_le _⟩ dX13_counter_187 ?_
                          refine lv_if_eq (tgt := 205) hx hb dX13_counter_190 (by decide) (fun c_190 => ?_) (fun c_190 => ?_)
                          · skip
                            refine lv_iload hx hb dX13_counter_205 (lv_at hl 4 rfl) ?_
                            refine lv_aload_n hx hb dX13_counter_207 rfl (lv_at hl 6 rfl) ?_
                            refine q_rdV (As := []) (rest := [.int x84_6]) (c_X13_allGo l D cB cI cJ ad n ML84 mb nt nc np nq (upd mv 2 0) toldF limitF kindF heavyF wideF hotF y84_0 h_mb h_mb_3 h_mb_8 h_mb_12 h_mb_13 h_mb_15 h_mb_17 h_mb_18 ((fL84 mb (by omega)).trans ((fL41 mb (by omega)).trans (va_up_self M mb (.inr (12, modF ad mb (upd mv 2 0)))))) ((fL84 (mb + 3) (by omega)).trans ((fL41 (mb + 3) (by omega)).trans ((va_up_ne M (.inr (12, modF ad mb (upd mv 2 0))) (show mb + 3 ≠ mb by omega)).trans m_mb_3))) ((fL84 (mb + 8) (by omega)).trans ((fL41 (mb + 8) (by omega)).trans ((va_up_ne M (.inr (12, modF ad mb (upd mv 2 0))) (show mb + 8 ≠ mb by omega)).trans m_mb_8))) ((fL84 (mb + 12) (by omega)).trans ((fL41 (mb + 12) (by omega)).trans ((va_up_ne M (.inr (12, modF ad mb (upd mv 2 0))) (show mb + 12 ≠ mb by omega)).trans m_mb_12))) ((fL84 (mb + 13) (by omega)).trans ((fL41 (mb + 13) (by omega)).trans ((va_up_ne M (.inr (12, modF ad mb (upd mv 2 0))) (show mb + 13 ≠ mb by omega)).trans m_mb_13))) ((fL84 (mb + 15) (by omega)).trans ((fL41 (mb + 15) (by omega)).trans ((va_up_ne M (.inr (12, modF ad mb (upd mv 2 0))) (show mb + 15 ≠ mb by omega)).trans m_mb_15))) ((fL84 (mb + 17) (by omega)).trans ((fL41 (mb + 17) (by omega)).trans ((va_up_ne M (.inr (12, modF ad mb (upd mv 2 0))) (show mb + 17 ≠ mb by omega)).trans m_mb_17))) mL84_0 k0 hnp k1 hnc k2 hnt k3 hnq) X hK hP hS hl.1 rfl gX13_counter_X13_allGo yd_X13_allGo ⟨Nat.le_of_ble_eq_true rfl, Nat.le_of_ble_eq_true rfl⟩ h_mb ((fL84 mb (by omega)).trans ((fL41 mb (by omega)).trans (va_up_self M mb (.inr (12, modF ad mb (upd mv 2 0)))))) (ci := 12) rfl rfl (Nat.le_of_ble_eq_true rfl) ⟨Nat.zero_le _, Nat.zero_le _⟩ dX13_counter_208 ?_
                            refine lv_if_eq (tgt := 218) hx hb dX13_counter_211 (by decide) (fun c_211 => ?_) (fun c_211 => ?_)
                            · skip
                              refine lv_iconst (v := 0) hx hb dX13_counter_218 (by decide) ?_
                              refine lv_iadd hx hb dX13_counter_219 ?_
                              refine lv_istore (lv' := [(6, .int (x84_6 + 0)), (9, .int (((((((x84_4 * 1103515245) + 12345) * 1103515245) + 12345) >>> ((16 : Int32) &&& 31)) &&& 32767) - ((((((x84_4 * 1103515245) + 12345) * 1103515245) + 12345) >>> ((16 : Int32) &&& 31)) &&& 32767) / (toldF 1) * (toldF 1))), (4, .int ((((x84_4 * 1103515245) + 12345) * 1103515245) + 12345)), (8, .int (((((x84_4 * 1103515245) + 12345) >>> ((16 : Int32) &&& 31)) &&& 32767) - ((((x84_4 * 1103515245) + 12345) >>> ((16 : Int32) &&& 31)) &&& 32767) / (toldF 2) * (toldF 2))), (7, .int (nI t84)), (5, .int x84_5), (0, .ref (ad mb)), (1, .int x), (2, .int (nI ni)), (3, .int z)]) hx hb dX13_counter_220 hl (by decide) rfl (fun ls hl => ?_)
                              refine lv_iinc (v := ((nI t84) + 1)) (lv' := [(7, .int ((nI t84) + 1)), (6, .int (x84_6 + 0)), (9, .int (((((((x84_4 * 1103515245) + 12345) * 1103515245) + 12345) >>> ((16 : Int32) &&& 31)) &&& 32767) - ((((((x84_4 * 1103515245) + 12345) * 1103515245) + 12345) >>> ((16 : Int32) &&& 31)) &&& 32767) / (toldF 1) * (toldF 1))), (4, .int ((((x84_4 * 1103515245) + 12345) * 1103515245) + 12345)), (8, .int (((((x84_4 * 1103515245) + 12345) >>> ((16 : Int32) &&& 31)) &&& 32767) - ((((x84_4 * 1103515245) + 12345) >>> ((16 : Int32) &&& 31)) &&& 32767) / (toldF 2) * (toldF 2))), (5, .int x84_5), (0, .ref (ad mb)), (1, .int x), (2, .int (nI ni)), (3, .int z)]) hx hb dX13_counter_222 hl (k := 4) rfl rfl (by decide) rfl (fun ls hl => ?_)
                              refine lv_goto (tgt := 84) hx hb dX13_counter_225 (by decide) ?_
                              exact ih_84 (t84 + 1) (x84_6 + 0) x84_5 ((((x84_4 * 1103515245) + 12345) * 1103515245) + 12345) y84_0 (by omega) (by omega) (by rw [s_X13_counter_84, ← e_x84_6, ← e_x84_5, ← e_x84_4, ← e_y84_0, s_X13_counter_84s, if_neg c_179, if_pos c_190, if_pos c_211]) (by rw [s_X13_counter_84, ← e_x84_6, ← e_x84_5, ← e_x84_4, ← e_y84_0, s_X13_counter_84s, if_neg c_179, if_pos c_190, if_pos c_211]) (by rw [s_X13_counter_84, ← e_x84_6, ← e_x84_5, ← e_x84_4, ← e_y84_0, s_X13_counter_84s, if_neg c_179, if_pos c_190, if_pos c_211]) (by rw [s_X13_counter_84, ← e_x84_6, ← e_x84_5, ← e_x84_4, ← e_y84_0, s_X13_counter_84s, if_neg c_179, if_pos c_190, if_pos c_211]) _ _ _ mL84_0 (fun q n0 => (fL84 q n0)) hP hS ls (by rw [(show nI (t84 + 1) = nI t84 + 1 by exact nI_succ _)]; exact lv_sub hl [0, 1, 5, 3, 6, 7, 8, 9] rfl)
                            · skip
                              refine lv_iconst (v := 1) hx hb dX13_counter_214 (by decide) ?_
                              refine lv_goto (tgt := 219) hx hb dX13_counter_215 (by decide) ?_
                              refine lv_iadd hx hb dX13_counter_219 ?_
                              refine lv_istore (lv' := [(6, .int (x84_6 + 1)), (9, .int (((((((x84_4 * 1103515245) + 12345) * 1103515245) + 12345) >>> ((16 : Int32) &&& 31)) &&& 32767) - ((((((x84_4 * 1103515245) + 12345) * 1103515245) + 12345) >>> ((16 : Int32) &&& 31)) &&& 32767) / (toldF 1) * (toldF 1))), (4, .int ((((x84_4 * 1103515245) + 12345) * 1103515245) + 12345)), (8, .int (((((x84_4 * 1103515245) + 12345) >>> ((16 : Int32) &&& 31)) &&& 32767) - ((((x84_4 * 1103515245) + 12345) >>> ((16 : Int32) &&& 31)) &&& 32767) / (toldF 2) * (toldF 2))), (7, .int (nI t84)), (5, .int x84_5), (0, .ref (ad mb)), (1, .int x), (2, .int (nI ni)), (3, .int z)]) hx hb dX13_counter_220 hl (by decide) rfl (fun ls hl => ?_)
                              refine lv_iinc (v := ((nI t84) + 1)) (lv' := [(7, .int ((nI t84) + 1)), (6, .int (x84_6 + 1)), (9, .int (((((((x84_4 * 1103515245) + 12345) * 1103515245) + 12345) >>> ((16 : Int32) &&& 31)) &&& 32767) - ((((((x84_4 * 1103515245) + 12345) * 1103515245) + 12345) >>> ((16 : Int32) &&& 31)) &&& 32767) / (toldF 1) * (toldF 1))), (4, .int ((((x84_4 * 1103515245) + 12345) * 1103515245) + 12345)), (8, .int (((((x84_4 * 1103515245) + 12345) >>> ((16 : Int32) &&& 31)) &&& 32767) - ((((x84_4 * 1103515245) + 12345) >>> ((16 : Int32) &&& 31)) &&& 32767) / (toldF 2) * (toldF 2))), (5, .int x84_5), (0, .ref (ad mb)), (1, .int x), (2, .int (nI ni)), (3, .int z)]) hx hb dX13_counter_222 hl (k := 4) rfl rfl (by decide) rfl (fun ls hl => ?_)
                              refine lv_goto (tgt := 84) hx hb dX13_counter_225 (by decide) ?_
                              exact ih_84 (t84 + 1) (x84_6 + 1) x84_5 ((((x84_4 * 1103515245) + 12345) * 1103515245) + 12345) y84_0 (by omega) (by omega) (by rw [s_X13_counter_84, ← e_x84_6, ← e_x84_5, ← e_x84_4, ← e_y84_0, s_X13_counter_84s, if_neg c_179, if_pos c_190, if_neg c_211]) (by rw [s_X13_counter_84, ← e_x84_6, ← e_x84_5, ← e_x84_4, ← e_y84_0, s_X13_counter_84s, if_neg c_179, if_pos c_190, if_neg c_211]) (by rw [s_X13_counter_84, ← e_x84_6, ← e_x84_5, ← e_x84_4, ← e_y84_0, s_X13_counter_84s, if_neg c_179, if_pos c_190, if_neg c_211]) (by rw [s_X13_counter_84, ← e_x84_6, ← e_x84_5, ← e_x84_4, ← e_y84_0, s_X13_counter_84s, if_neg c_179, if_pos c_190, if_neg c_211]) _ _ _ mL84_0 (fun q n0 => (fL84 q n0)) hP hS ls (by rw [(show nI (t84 + 1) = nI t84 + 1 by exact nI_succ _)]; exact lv_sub hl [0, 1, 5, 3, 6, 7, 8, 9] rfl)
                          · skip
                            refine lv_aload_n hx hb dX13_counter_193 rfl (lv_at hl 6 rfl) ?_
                            refine q_get (v := .ref (ad (mb + 18))) (fs := modF ad mb (upd mv 2 0)) X hK hP fX13_counter_84 h_mb ((fL84 mb (by omega)).trans ((fL41 mb (by omega)).trans (va_up_self M mb (.inr (12, modF ad mb (upd mv 2 0)))))) rfl dX13_counter_194 ?_
                            refine lv_iload hx hb dX13_counter_197 (lv_at hl 2 rfl) ?_
                            refine lv_iload hx hb dX13_counter_199 (lv_at hl 0 rfl) ?_
                            refine q_iast (f := y84_0) (k := 24) X hK hI hP hS h_mb_18 mL84_0 (rem_vp k2 h0t (by omega) (by decide)) dX13_counter_201 (fun H locs hP hS => ?_)
                            refine lv_iinc (v := (x84_5 + 1)) (lv' := [(5, .int (x84_5 + 1)), (9, .int (((((((x84_4 * 1103515245) + 12345) * 1103515245) + 12345) >>> ((16 : Int32) &&& 31)) &&& 32767) - ((((((x84_4 * 1103515245) + 12345) * 1103515245) + 12345) >>> ((16 : Int32) &&& 31)) &&& 32767) / (toldF 1) * (toldF 1))), (4, .int ((((x84_4 * 1103515245) + 12345) * 1103515245) + 12345)), (8, .int (((((x84_4 * 1103515245) + 12345) >>> ((16 : Int32) &&& 31)) &&& 32767) - ((((x84_4 * 1103515245) + 12345) >>> ((16 : Int32) &&& 31)) &&& 32767) / (toldF 2) * (toldF 2))), (7, .int (nI t84)), (6, .int x84_6), (0, .ref (ad mb)), (1, .int x), (2, .int (nI ni)), (3, .int z)]) hx hb dX13_counter_202 hl (k := 5) rfl rfl (by decide) rfl (fun ls hl => ?_)
                            refine lv_iload hx hb dX13_counter_205 (lv_at hl 5 rfl) ?_
                            refine lv_aload_n hx hb dX13_counter_207 rfl (lv_at hl 6 rfl) ?_
                            refine q_rdV (As := []) (rest := [.int x84_6]) (c_X13_allGo l D cB cI cJ ad n (va_up ML84 (mb + 18) (.inl (cI, 24, .inl (upd y84_0 (((((x84_4 * 1103515245) + 12345) >>> ((16 : Int32) &&& 31)) &&& 32767) - ((((x84_4 * 1103515245) + 12345) >>> ((16 : Int32) &&& 31)) &&& 32767) / (toldF 2) * (toldF 2)).toNatClampNeg (((((((x84_4 * 1103515245) + 12345) * 1103515245) + 12345) >>> ((16 : Int32) &&& 31)) &&& 32767) - ((((((x84_4 * 1103515245) + 12345) * 1103515245) + 12345) >>> ((16 : Int32) &&& 31)) &&& 32767) / (toldF 1) * (toldF 1)))))) mb nt nc np nq (upd mv 2 0) toldF limitF kindF heavyF wideF hotF (upd y84_0 (((((x84_4 * 1103515245) + 12345) >>> ((16 : Int32) &&& 31)) &&& 32767) - ((((x84_4 * 1103515245) + 12345) >>> ((16 : Int32) &&& 31)) &&& 32767) / (toldF 2) * (toldF 2)).toNatClampNeg (((((((x84_4 * 1103515245) + 12345) * 1103515245) + 12345) >>> ((16 : Int32) &&& 31)) &&& 32767) - ((((((x84_4 * 1103515245) + 12345) * 1103515245) + 12345) >>> ((16 : Int32) &&& 31)) &&& 32767) / (toldF 1) * (toldF 1))) h_mb h_mb_3 h_mb_8 h_mb_12 h_mb_13 h_mb_15 h_mb_17 h_mb_18 ((va_up_ne ML84 (.inl (cI, 24, .inl (upd y84_0 (((((x84_4 * 1103515245) + 12345) >>> ((16 : Int32) &&& 31)) &&& 32767) - ((((x84_4 * 1103515245) + 12345) >>> ((16 : Int32) &&& 31)) &&& 32767) / (toldF 2) * (toldF 2)).toNatClampNeg (((((((x84_4 * 1103515245) + 12345) * 1103515245) + 12345) >>> ((16 : Int32) &&& 31)) &&& 32767) - ((((((x84_4 * 1103515245) + 12345) * 1103515245) + 12345) >>> ((16 : Int32) &&& 31)) &&& 32767) / (toldF 1) * (toldF 1))))) (show mb ≠ mb + 18 by omega)).trans ((fL84 mb (by omega)).trans ((fL41 mb (by omega)).trans (va_up_self M mb (.inr (12, modF ad mb (upd mv 2 0))))))) ((va_up_ne ML84 (.inl (cI, 24, .inl (upd y84_0 (((((x84_4 * 1103515245) + 12345) >>> ((16 : Int32) &&& 31)) &&& 32767) - ((((x84_4 * 1103515245) + 12345) >>> ((16 : Int32) &&& 31)) &&& 32767) / (toldF 2) * (toldF 2)).toNatClampNeg (((((((x84_4 * 1103515245) + 12345) * 1103515245) + 12345) >>> ((16 : Int32) &&& 31)) &&& 32767) - ((((((x84_4 * 1103515245) + 12345) * 1103515245) + 12345) >>> ((16 : Int32) &&& 31)) &&& 32767) / (toldF 1) * (toldF 1))))) (show mb + 3 ≠ mb + 18 by omega)).trans ((fL84 (mb + 3) (by omega)).trans ((fL41 (mb + 3) (by omega)).trans ((va_up_ne M (.inr (12, modF ad mb (upd mv 2 0))) (show mb + 3 ≠ mb by omega)).trans m_mb_3)))) ((va_up_ne ML84 (.inl (cI, 24, .inl (upd y84_0 (((((x84_4 * 1103515245) + 12345) >>> ((16 : Int32) &&& 31)) &&& 32767) - ((((x84_4 * 1103515245) + 12345) >>> ((16 : Int32) &&& 31)) &&& 32767) / (toldF 2) * (toldF 2)).toNatClampNeg (((((((x84_4 * 1103515245) + 12345) * 1103515245) + 12345) >>> ((16 : Int32) &&& 31)) &&& 32767) - ((((((x84_4 * 1103515245) + 12345) * 1103515245) + 12345) >>> ((16 : Int32) &&& 31)) &&& 32767) / (toldF 1) * (toldF 1))))) (show mb + 8 ≠ mb + 18 by omega)).trans ((fL84 (mb + 8) (by omega)).trans ((fL41 (mb + 8) (by omega)).trans ((va_up_ne M (.inr (12, modF ad mb (upd mv 2 0))) (show mb + 8 ≠ mb by omega)).trans m_mb_8)))) ((va_up_ne ML84 (.inl (cI, 24, .inl (upd y84_0 (((((x84_4 * 1103515245) + 12345) >>> ((16 : Int32) &&& 31)) &&& 32767) - ((((x84_4 * 1103515245) + 12345) >>> ((16 : Int32) &&& 31)) &&& 32767) / (toldF 2) * (toldF 2)).toNatClampNeg (((((((x84_4 * 1103515245) + 12345) * 1103515245) + 12345) >>> ((16 : Int32) &&& 31)) &&& 32767) - ((((((x84_4 * 1103515245) + 12345) * 1103515245) + 12345) >>> ((16 : Int32) &&& 31)) &&& 32767) / (toldF 1) * (toldF 1))))) (show mb + 12 ≠ mb + 18 by omega)).trans ((fL84 (mb + 12) (by omega)).trans ((fL41 (mb + 12) (by omega)).trans ((va_up_ne M (.inr (12, modF ad mb (upd mv 2 0))) (show mb + 12 ≠ mb by omega)).trans m_mb_12)))) ((va_up_ne ML84 (.inl (cI, 24, .inl (upd y84_0 (((((x84_4 * 1103515245) + 12345) >>> ((16 : Int32) &&& 31)) &&& 32767) - ((((x84_4 * 1103515245) + 12345) >>> ((16 : Int32) &&& 31)) &&& 32767) / (toldF 2) * (toldF 2)).toNatClampNeg (((((((x84_4 * 1103515245) + 12345) * 1103515245) + 12345) >>> ((16 : Int32) &&& 31)) &&& 32767) - ((((((x84_4 * 1103515245) + 12345) * 1103515245) + 12345) >>> ((16 : Int32) &&& 31)) &&& 32767) / (toldF 1) * (toldF 1))))) (show mb + 13 ≠ mb + 18 by omega)).trans ((fL84 (mb + 13) (by omega)).trans ((fL41 (mb + 13) (by omega)).trans ((va_up_ne M (.inr (12, modF ad mb (upd mv 2 0))) (show mb + 13 ≠ mb by omega)).trans m_mb_13)))) ((va_up_ne ML84 (.inl (cI, 24, .inl (upd y84_0 (((((x84_4 * 1103515245) + 12345) >>> ((16 : Int32) &&& 31)) &&& 32767) - ((((x84_4 * 1103515245) + 12345) >>> ((16 : Int32) &&& 31)) &&& 32767) / (toldF 2) * (toldF 2)).toNatClampNeg (((((((x84_4 * 1103515245) + 12345) * 1103515245) + 12345) >>> ((16 : Int32) &&& 31)) &&& 32767) - ((((((x84_4 * 1103515245) + 12345) * 1103515245) + 12345) >>> ((16 : Int32) &&& 31)) &&& 32767) / (toldF 1) * (toldF 1))))) (show mb + 15 ≠ mb + 18 by omega)).trans ((fL84 (mb + 15) (by omega)).trans ((fL41 (mb + 15) (by omega)).trans ((va_up_ne M (.inr (12, modF ad mb (upd mv 2 0))) (show mb + 15 ≠ mb by omega)).trans m_mb_15)))) ((va_up_ne ML84 (.inl (cI, 24, .inl (upd y84_0 (((((x84_4 * 1103515245) + 12345) >>> ((16 : Int32) &&& 31)) &&& 32767) - ((((x84_4 * 1103515245) + 12345) >>> ((16 : Int32) &&& 31)) &&& 32767) / (toldF 2) * (toldF 2)).toNatClampNeg (((((((x84_4 * 1103515245) + 12345) * 1103515245) + 12345) >>> ((16 : Int32) &&& 31)) &&& 32767) - ((((((x84_4 * 1103515245) + 12345) * 1103515245) + 12345) >>> ((16 : Int32) &&& 31)) &&& 32767) / (toldF 1) * (toldF 1))))) (show mb + 17 ≠ mb + 18 by omega)).trans ((fL84 (mb + 17) (by omega)).trans ((fL41 (mb + 17) (by omega)).trans ((va_up_ne M (.inr (12, modF ad mb (upd mv 2 0))) (show mb + 17 ≠ mb by omega)).trans m_mb_17)))) (va_up_self ML84 (mb + 18) (.inl (cI, 24, .inl (upd y84_0 (((((x84_4 * 1103515245) + 12345) >>> ((16 : Int32) &&& 31)) &&& 32767) - ((((x84_4 * 1103515245) + 12345) >>> ((16 : Int32) &&& 31)) &&& 32767) / (toldF 2) * (toldF 2)).toNatClampNeg (((((((x84_4 * 1103515245) + 12345) * 1103515245) + 12345) >>> ((16 : Int32) &&& 31)) &&& 32767) - ((((((x84_4 * 1103515245) + 12345) * 1103515245) + 12345) >>> ((16 : Int32) &&& 31)) &&& 32767) / (toldF 1) * (toldF 1)))))) k0 hnp k1 hnc k2 hnt k3 hnq) X hK hP hS hl.1 rfl gX13_counter_X13_allGo yd_X13_allGo ⟨Nat.le_of_ble_eq_true rfl, Nat.le_of_ble_eq_true rfl⟩ h_mb ((va_up_ne ML84 (.inl (cI, 24, .inl (upd y84_0 (((((x84_4 * 1103515245) + 12345) >>> ((16 : Int32) &&& 31)) &&& 32767) - ((((x84_4 * 1103515245) + 12345) >>> ((16 : Int32) &&& 31)) &&& 32767) / (toldF 2) * (toldF 2)).toNatClampNeg (((((((x84_4 * 1103515245) + 12345) * 1103515245) + 12345) >>> ((16 : Int32) &&& 31)) &&& 32767) - ((((((x84_4 * 1103515245) + 12345) * 1103515245) + 12345) >>> ((16 : Int32) &&& 31)) &&& 32767) / (toldF 1) * (toldF 1))))) (show mb ≠ mb + 18 by omega)).trans ((fL84 mb (by omega)).trans ((fL41 mb (by omega)).trans (va_up_self M mb (.inr (12, modF ad mb (upd mv 2 0))))))) (ci := 12) rfl rfl (Nat.le_of_ble_eq_true rfl) ⟨Nat.zero_le _, Nat.zero_le _⟩ dX13_counter_208 ?_
                            refine lv_if_eq (tgt := 218) hx hb dX13_counter_211 (by decide) (fun c_211 => ?_) (fun c_211 => ?_)
                            · skip
                              refine lv_iconst (v := 0) hx hb dX13_counter_218 (by decide) ?_
                              refine lv_iadd hx hb dX13_counter_219 ?_
                              refine lv_istore (lv' := [(6, .int (x84_6 + 0)), (5, .int (x84_5 + 1)), (9, .int (((((((x84_4 * 1103515245) + 12345) * 1103515245) + 12345) >>> ((16 : Int32) &&& 31)) &&& 32767) - ((((((x84_4 * 1103515245) + 12345) * 1103515245) + 12345) >>> ((16 : Int32) &&& 31)) &&& 32767) / (toldF 1) * (toldF 1))), (4, .int ((((x84_4 * 1103515245) + 12345) * 1103515245) + 12345)), (8, .int (((((x84_4 * 1103515245) + 12345) >>> ((16 : Int32) &&& 31)) &&& 32767) - ((((x84_4 * 1103515245) + 12345) >>> ((16 : Int32) &&& 31)) &&& 32767) / (toldF 2) * (toldF 2))), (7, .int (nI t84)), (0, .ref (ad mb)), (1, .int x), (2, .int (nI ni)), (3, .int z)]) hx hb dX13_counter_220 hl (by decide) rfl (fun ls hl => ?_)
                              refine lv_iinc (v := ((nI t84) + 1)) (lv' := [(7, .int ((nI t84) + 1)), (6, .int (x84_6 + 0)), (5, .int (x84_5 + 1)), (9, .int (((((((x84_4 * 1103515245) + 12345) * 1103515245) + 12345) >>> ((16 : Int32) &&& 31)) &&& 32767) - ((((((x84_4 * 1103515245) + 12345) * 1103515245) + 12345) >>> ((16 : Int32) &&& 31)) &&& 32767) / (toldF 1) * (toldF 1))), (4, .int ((((x84_4 * 1103515245) + 12345) * 1103515245) + 12345)), (8, .int (((((x84_4 * 1103515245) + 12345) >>> ((16 : Int32) &&& 31)) &&& 32767) - ((((x84_4 * 1103515245) + 12345) >>> ((16 : Int32) &&& 31)) &&& 32767) / (toldF 2) * (toldF 2))), (0, .ref (ad mb)), (1, .int x), (2, .int (nI ni)), (3, .int z)]) hx hb dX13_counter_222 hl (k := 5) rfl rfl (by decide) rfl (fun ls hl => ?_)
                              refine lv_goto (tgt := 84) hx hb dX13_counter_225 (by decide) ?_
                              exact ih_84 (t84 + 1) (x84_6 + 0) (x84_5 + 1) ((((x84_4 * 1103515245) + 12345) * 1103515245) + 12345) (upd y84_0 (((((x84_4 * 1103515245) + 12345) >>> ((16 : Int32) &&& 31)) &&& 32767) - ((((x84_4 * 1103515245) + 12345) >>> ((16 : Int32) &&& 31)) &&& 32767) / (toldF 2) * (toldF 2)).toNatClampNeg (((((((x84_4 * 1103515245) + 12345) * 1103515245) + 12345) >>> ((16 : Int32) &&& 31)) &&& 32767) - ((((((x84_4 * 1103515245) + 12345) * 1103515245) + 12345) >>> ((16 : Int32) &&& 31)) &&& 32767) / (toldF 1) * (toldF 1))) (by omega) (by omega) (by rw [s_X13_counter_84, ← e_x84_6, ← e_x84_5, ← e_x84_4, ← e_y84_0, s_X13_counter_84s, if_neg c_179, if_neg c_190, if_pos c_211]) (by rw [s_X13_counter_84, ← e_x84_6, ← e_x84_5, ← e_x84_4, ← e_y84_0, s_X13_counter_84s, if_neg c_179, if_neg c_190, if_pos c_211]) (by rw [s_X13_counter_84, ← e_x84_6, ← e_x84_5, ← e_x84_4, ← e_y84_0, s_X13_counter_84s, if_neg c_179, if_neg c_190, if_pos c_211]) (by rw [s_X13_counter_84, ← e_x84_6, ← e_x84_5, ← e_x84_4, ← e_y84_0, s_X13_counter_84s, if_neg c_179, if_neg c_190, if_pos c_211]) _ _ _ (va_up_self ML84 (mb + 18) (.inl (cI, 24, .inl (upd y84_0 (((((x84_4 * 1103515245) + 12345) >>> ((16 : Int32) &&& 31)) &&& 32767) - ((((x84_4 * 1103515245) + 12345) >>> ((16 : Int32) &&& 31)) &&& 32767) / (toldF 2) * (toldF 2)).toNatClampNeg (((((((x84_4 * 1103515245) + 12345) * 1103515245) + 12345) >>> ((16 : Int32) &&& 31)) &&& 32767) - ((((((x84_4 * 1103515245) + 12345) * 1103515245) + 12345) >>> ((16 : Int32) &&& 31)) &&& 32767) / (toldF 1) * (toldF 1)))))) (fun q n0 => ((va_up_ne _ _ n0).trans (fL84 q n0))) hP hS ls (by rw [(show nI (t84 + 1) = nI t84 + 1 by exact nI_succ _)]; exact lv_sub hl [0, 1, 2, 4, 6, 7, 8, 9] rfl)
                            · skip
                              refine lv_iconst (v := 1) hx hb dX13_counter_214 (by decide) ?_
                              refine lv_goto (tgt := 219) hx hb dX13_counter_215 (by decide) ?_
                              refine lv_iadd hx hb dX13_counter_219 ?_
                              refine lv_istore (lv' := [(6, .int (x84_6 + 1)), (5, .int (x84_5 + 1)), (9, .int (((((((x84_4 * 1103515245) + 12345) * 1103515245) + 12345) >>> ((16 : Int32) &&& 31)) &&& 32767) - ((((((x84_4 * 1103515245) + 12345) * 1103515245) + 12345) >>> ((16 : Int32) &&& 31)) &&& 32767) / (toldF 1) * (toldF 1))), (4, .int ((((x84_4 * 1103515245) + 12345) * 1103515245) + 12345)), (8, .int (((((x84_4 * 1103515245) + 12345) >>> ((16 : Int32) &&& 31)) &&& 32767) - ((((x84_4 * 1103515245) + 12345) >>> ((16 : Int32) &&& 31)) &&& 32767) / (toldF 2) * (toldF 2))), (7, .int (nI t84)), (0, .ref (ad mb)), (1, .int x), (2, .int (nI ni)), (3, .int z)]) hx hb dX13_counter_220 hl (by decide) rfl (fun ls hl => ?_)
                              refine lv_iinc (v := ((nI t84) + 1)) (lv' := [(7, .int ((nI t84) + 1)), (6, .int (x84_6 + 1)), (5, .int (x84_5 + 1)), (9, .int (((((((x84_4 * 1103515245) + 12345) * 1103515245) + 12345) >>> ((16 : Int32) &&& 31)) &&& 32767) - ((((((x84_4 * 1103515245) + 12345) * 1103515245) + 12345) >>> ((16 : Int32) &&& 31)) &&& 32767) / (toldF 1) * (toldF 1))), (4, .int ((((x84_4 * 1103515245) + 12345) * 1103515245) + 12345)), (8, .int (((((x84_4 * 1103515245) + 12345) >>> ((16 : Int32) &&& 31)) &&& 32767) - ((((x84_4 * 1103515245) + 12345) >>> ((16 : Int32) &&& 31)) &&& 32767) / (toldF 2) * (toldF 2))), (0, .ref (ad mb)), (1, .int x), (2, .int (nI ni)), (3, .int z)]) hx hb dX13_counter_222 hl (k := 5) rfl rfl (by decide) rfl (fun ls hl => ?_)
                              refine lv_goto (tgt := 84) hx hb dX13_counter_225 (by decide) ?_
                              exact ih_84 (t84 + 1) (x84_6 + 1) (x84_5 + 1) ((((x84_4 * 1103515245) + 12345) * 1103515245) + 12345) (upd y84_0 (((((x84_4 * 1103515245) + 12345) >>> ((16 : Int32) &&& 31)) &&& 32767) - ((((x84_4 * 1103515245) + 12345) >>> ((16 : Int32) &&& 31)) &&& 32767) / (toldF 2) * (toldF 2)).toNatClampNeg (((((((x84_4 * 1103515245) + 12345) * 1103515245) + 12345) >>> ((16 : Int32) &&& 31)) &&& 32767) - ((((((x84_4 * 1103515245) + 12345) * 1103515245) + 12345) >>> ((16 : Int32) &&& 31)) &&& 32767) / (toldF 1) * (toldF 1))) (by omega) (by omega) (by rw [s_X13_counter_84, ← e_x84_6, ← e_x84_5, ← e_x84_4, ← e_y84_0, s_X13_counter_84s, if_neg c_179, if_neg c_190, if_neg c_211]) (by rw [s_X13_counter_84, ← e_x84_6, ← e_x84_5, ← e_x84_4, ← e_y84_0, s_X13_counter_84s, if_neg c_179, if_neg c_190, if_neg c_211]) (by rw [s_X13_counter_84, ← e_x84_6, ← e_x84_5, ← e_x84_4, ← e_y84_0, s_X13_counter_84s, if_neg c_179, if_neg c_190, if_neg c_211]) (by rw [s_X13_counter_84, ← e_x84_6, ← e_x84_5, ← e_x84_4, ← e_y84_0, s_X13_counter_84s, if_neg c_179, if_neg c_190, if_neg c_211]) _ _ _ (va_up_self ML84 (mb + 18) (.inl (cI, 24, .inl (upd y84_0 (((((x84_4 * 1103515245) + 12345) >>> ((16 : Int32) &&& 31)) &&& 32767) - ((((x84_4 * 1103515245) + 12345) >>> ((16 : Int32) &&& 31)) &&& 32767) / (toldF 2) * (toldF 2)).toNatClampNeg (((((((x84_4 * 1103515245) + 12345) * 1103515245) + 12345) >>> ((16 : Int32) &&& 31)) &&& 32767) - ((((((x84_4 * 1103515245) + 12345) * 1103515245) + 12345) >>> ((16 : Int32) &&& 31)) &&& 32767) / (toldF 1) * (toldF 1)))))) (fun q n0 => ((va_up_ne _ _ n0).trans (fL84 q n0))) hP hS ls (by rw [(show nI (t84 + 1) = nI t84 + 1 by exact nI_succ _)]; exact lv_sub hl [0, 1, 2, 4, 6, 7, 8, 9] rfl)
              exact loop_84 (ni + 1) 0 0 0 x placeF (by omega) (by omega) (by rfl) (by rfl) (by rfl) (by rfl) _ _ _ ((fL41 (mb + 18) (by omega)).trans ((va_up_ne M (.inr (12, modF ad mb (upd mv 2 0))) (show mb + 18 ≠ mb by omega)).trans m_mb_18)) (fun q n0 => rfl) hP hS ls (lv_sub hl [0, 1, 2, 3, 4, 5, 6, 7] rfl)
            · rw [k2] at c_49
              have h9_41 : t41 < nt := lt_of_nlt (t := t41) (k := nt) c_49 (by omega) h_t41
              refine lv_aload_n hx hb dX13_counter_52 rfl (lv_at hl 1 rfl) ?_
              refine q_get (v := .ref (ad (mb + 29))) (fs := modF ad mb (upd mv 2 0)) X hK hP fX13_counter_121 h_mb ((fL41 mb (by omega)).trans (va_up_self M mb (.inr (12, modF ad mb (upd mv 2 0))))) rfl dX13_counter_53 ?_
              refine lv_iload hx hb dX13_counter_56 (lv_at hl 0 rfl) ?_
              refine lv_aload_n hx hb dX13_counter_58 rfl (lv_at hl 1 rfl) ?_
              refine q_get (v := .ref (ad (mb + 18))) (fs := modF ad mb (upd mv 2 0)) X hK hP fX13_counter_84 h_mb ((fL41 mb (by omega)).trans (va_up_self M mb (.inr (12, modF ad mb (upd mv 2 0))))) rfl dX13_counter_59 ?_
              refine lv_iload hx hb dX13_counter_62 (lv_at hl 0 rfl) ?_
              refine q_ialdN (f := placeF) (k := 24) X hK hP t41 h_mb_18 ((fL41 (mb + 18) (by omega)).trans ((va_up_ne M (.inr (12, modF ad mb (upd mv 2 0))) (show mb + 18 ≠ mb by omega)).trans m_mb_18)) (by omega) (by decide) dX13_counter_64 ?_
              refine q_iastN (f := y41_0) (k := 12) X hK hI hP hS t41 h_mb_29 mL41_0 (by omega) (by decide) dX13_counter_65 (fun H locs hP hS => ?_)
              refine lv_iinc (v := ((nI t41) + 1)) (lv' := [(4, .int ((nI t41) + 1)), (0, .ref (ad mb)), (1, .int x), (2, .int (nI ni)), (3, .int z)]) hx hb dX13_counter_66 hl (k := 0) rfl rfl (by decide) rfl (fun ls hl => ?_)
              refine lv_goto (tgt := 41) hx hb dX13_counter_69 (by decide) ?_
              exact ih_41 (t41 + 1) (upd y41_0 t41 (placeF t41)) (by omega) (by omega) (by rw [s_X13_counter_41, ← e_y41_0, s_X13_counter_41s]) _ _ _ (va_up_self ML41 (mb + 29) (.inl (cI, 12, .inl (upd y41_0 t41 (placeF t41))))) (fun q n0 => ((va_up_ne _ _ n0).trans (fL41 q n0))) hP hS ls (by rw [(show nI (t41 + 1) = nI t41 + 1 by exact nI_succ _)]; exact lv_sub hl [0, 1, 2, 3, 4] rfl)
        exact loop_41 (nt + 1) 0 placeWasF (by omega) (by omega) (by rfl) _ _ _ ((va_up_ne M (.inr (12, modF ad mb (upd mv 2 0))) (show mb + 29 ≠ mb by omega)).trans m_mb_29) (fun q n0 => rfl) hP hS ls (lv_sub hl [0, 1, 2, 3, 4] rfl)
      · skip
        refine lv_aload_n hx hb dX13_counter_32 rfl (lv_at hl 0 rfl) ?_
        refine lv_iconst (v := 2) hx hb dX13_counter_33 (by decide) ?_
        refine q_wrVi (As := [.int 2]) (rest := []) (c_X13_fail l D cB cI cJ ad n (va_up M mb (.inr (12, modF ad mb (upd mv 2 0)))) hI mb (upd mv 2 0) 2 h_mb (va_up_self M mb (.inr (12, modF ad mb (upd mv 2 0)))) ) X hK hP hS hl.1 rfl gX13_counter_X13_fail yd_X13_fail ⟨Nat.le_of_ble_eq_true rfl, Nat.le_of_ble_eq_true rfl⟩ h_mb (va_up_self M mb (.inr (12, modF ad mb (upd mv 2 0)))) (ci := 12) rfl rfl (Nat.le_of_ble_eq_true rfl) ⟨Nat.zero_le _, Nat.zero_le _⟩ dX13_counter_34 (fun r16 M15 H locs hp14 hP hS => ?_)
        obtain ⟨rfl, g17, fr18⟩ := hp14
        exact q_wzret X hr hlocks hP hS (rfl) ⟨(by rw [s_X13_counter, if_neg c_6, if_pos c_11, if_pos c_29]), (by rw [s_X13_counter_0_f, if_neg c_6, if_pos c_11, if_pos c_29]; exact ((fr18 (mb + 18) (by omega)).trans ((va_up_ne M (.inr (12, modF ad mb (upd mv 2 0))) (show mb + 18 ≠ mb by omega)).trans m_mb_18))), (by rw [s_X13_counter_1_f, if_neg c_6, if_pos c_11, if_pos c_29]; exact ((fr18 (mb + 29) (by omega)).trans ((va_up_ne M (.inr (12, modF ad mb (upd mv 2 0))) (show mb + 29 ≠ mb by omega)).trans m_mb_29))), (by rw [s_X13_counter_2_1, if_neg c_6, if_pos c_11, if_pos c_29]; exact g17), (fun q n0 n1 n2 => ((fr18 q n2).trans (va_up_ne _ _ n2)))⟩ dX13_counter_37
    · skip
      refine lv_aload_n hx hb dX13_counter_14 rfl (lv_at hl 0 rfl) ?_
      refine lv_iconst (v := 1) hx hb dX13_counter_15 (by decide) ?_
      refine q_wrVi (As := [.int 1]) (rest := []) (c_X13_fail l D cB cI cJ ad n (va_up M mb (.inr (12, modF ad mb (upd mv 2 0)))) hI mb (upd mv 2 0) 1 h_mb (va_up_self M mb (.inr (12, modF ad mb (upd mv 2 0)))) ) X hK hP hS hl.1 rfl gX13_counter_X13_fail yd_X13_fail ⟨Nat.le_of_ble_eq_true rfl, Nat.le_of_ble_eq_true rfl⟩ h_mb (va_up_self M mb (.inr (12, modF ad mb (upd mv 2 0)))) (ci := 12) rfl rfl (Nat.le_of_ble_eq_true rfl) ⟨Nat.zero_le _, Nat.zero_le _⟩ dX13_counter_16 (fun r21 M20 H locs hp19 hP hS => ?_)
      obtain ⟨rfl, g22, fr23⟩ := hp19
      exact q_wzret X hr hlocks hP hS (rfl) ⟨(by rw [s_X13_counter, if_neg c_6, if_neg c_11]), (by rw [s_X13_counter_0_f, if_neg c_6, if_neg c_11]; exact ((fr23 (mb + 18) (by omega)).trans ((va_up_ne M (.inr (12, modF ad mb (upd mv 2 0))) (show mb + 18 ≠ mb by omega)).trans m_mb_18))), (by rw [s_X13_counter_1_f, if_neg c_6, if_neg c_11]; exact ((fr23 (mb + 29) (by omega)).trans ((va_up_ne M (.inr (12, modF ad mb (upd mv 2 0))) (show mb + 29 ≠ mb by omega)).trans m_mb_29))), (by rw [s_X13_counter_2_1, if_neg c_6, if_neg c_11]; exact g22), (fun q n0 n1 n2 => ((fr23 q n2).trans (va_up_ne _ _ n2)))⟩ dX13_counter_19
def s_X13_counterT_41s (placeF : Nat → Int32) (t41 : Nat) (y41_0 : Nat → Int32) : (Nat → Int32) := (upd y41_0 t41 (placeF t41))
def s_X13_counterT_41 (placeF : Nat → Int32) (z0 : Nat → Int32) : Nat → (Nat → Int32)
  | 0 => z0
  | t + 1 => s_X13_counterT_41s placeF t (s_X13_counterT_41 placeF z0 t)
def s_X13_counterT_231s (nt : Nat) (placeF : Nat → Int32) (placeWasF : Nat → Int32) (t231 : Nat) (y231_0 : Nat → Int32) : (Nat → Int32) := (upd y231_0 t231 ((s_X13_counterT_41 placeF placeWasF nt) t231))
def s_X13_counterT_231 (nt : Nat) (placeF : Nat → Int32) (placeWasF : Nat → Int32) (z0 : Nat → Int32) : Nat → (Nat → Int32)
  | 0 => z0
  | t + 1 => s_X13_counterT_231s nt placeF placeWasF t (s_X13_counterT_231 nt placeF placeWasF z0 t)
def s_X13_counterT (ni : Nat) (z : Int32) : Int32 := if z < 0 then (s_X13_fail) else if z ≤ 1 then if (s_X13_isIn ((nI ni).toInt64) 0 200) = 0 then (s_X13_fail) else if (nI ni) ≤ 0 then if z = 0 then 0 else 0 else if z = 0 then 0 else 0 else (s_X13_fail)
def s_X13_counterT_0_f (nt : Nat) (placeF : Nat → Int32) (placeWasF : Nat → Int32) (ni : Nat) (z : Int32) : Nat → Int32 := if z < 0 then placeF else if z ≤ 1 then if (s_X13_isIn ((nI ni).toInt64) 0 200) = 0 then placeF else if (nI ni) ≤ 0 then if z = 0 then (s_X13_counterT_231 nt placeF placeWasF placeF nt) else (s_X13_counterT_231 nt placeF placeWasF placeF nt) else if z = 0 then (s_X13_counterT_231 nt placeF placeWasF placeF nt) else (s_X13_counterT_231 nt placeF placeWasF placeF nt) else placeF
def s_X13_counterT_1_f (nt : Nat) (placeF : Nat → Int32) (placeWasF : Nat → Int32) (ni : Nat) (z : Int32) : Nat → Int32 := if z < 0 then placeWasF else if z ≤ 1 then if (s_X13_isIn ((nI ni).toInt64) 0 200) = 0 then placeWasF else if (nI ni) ≤ 0 then if z = 0 then (s_X13_counterT_41 placeF placeWasF nt) else (s_X13_counterT_41 placeF placeWasF nt) else if z = 0 then (s_X13_counterT_41 placeF placeWasF nt) else (s_X13_counterT_41 placeF placeWasF nt) else placeWasF
def s_X13_counterT_2_1 (mv : Nat → Int32) (ni : Nat) (z : Int32) : Nat → Int32 := if z < 0 then (upd (upd mv 2 0) 2 1) else if z ≤ 1 then if (s_X13_isIn ((nI ni).toInt64) 0 200) = 0 then (upd (upd mv 2 0) 2 2) else if (nI ni) ≤ 0 then if z = 0 then (upd mv 2 0) else (upd mv 2 0) else if z = 0 then (upd mv 2 0) else (upd mv 2 0) else (upd (upd mv 2 0) 2 1)
set_option maxHeartbeats 4000000 in
set_option maxRecDepth 100000 in
theorem c_X13_counterT (l : Launch) (D : va_G) (cB cI cJ : ClassId) (ad : Nat → Nat) (n : Nat) (M : Nat → va_E) (hI : ipI ad n) (mb : Nat) (nt : Nat) (nc : Nat) (np : Nat) (nq : Nat) (mv : Nat → Int32) (toldF : Nat → Int32) (placeF : Nat → Int32) (placeWasF : Nat → Int32) (ni : Nat) (x : Int32) (z : Int32) (h_mb : mb < n) (h_mb_3 : mb + 3 < n) (h_mb_18 : mb + 18 < n) (h_mb_29 : mb + 29 < n) (m_mb : M mb = .inr (12, modF ad mb mv)) (m_mb_3 : M (mb + 3) = .inl (cI, 14, .inl toldF)) (m_mb_18 : M (mb + 18) = .inl (cI, 24, .inl placeF)) (m_mb_29 : M (mb + 29) = .inl (cI, 12, .inl placeWasF)) (k0 : toldF 0 = nI np) (hnp : np ≤ 4) (k1 : toldF 1 = nI nc) (hnc : nc ≤ 5) (k2 : toldF 2 = nI nt) (hnt : nt ≤ 12) (k3 : toldF 3 = nI nq) (hnq : nq ≤ 6) (hni : ni ≤ 200) (h0t : nt = 0) : cWi l D cB cI cJ ad n M yX13_counter wsX13_counter 1 25 [.ref (ad mb), .int x, .int (nI ni), .int z] (fun r M' => r = s_X13_counterT ni z ∧ M' (mb + 18) = .inl (cI, 24, .inl (s_X13_counterT_0_f nt placeF placeWasF ni z)) ∧ M' (mb + 29) = .inl (cI, 12, .inl (s_X13_counterT_1_f nt placeF placeWasF ni z)) ∧ M' mb = .inr (12, modF ad mb (s_X13_counterT_2_1 mv ni z)) ∧ ∀ q : Nat, q ≠ mb + 18 → q ≠ mb + 29 → q ≠ mb → M' q = M q) := by
  refine q_body (cc := cX13_counter) (maxL := 10) (ret := (some .int)) (by decide) rfl (Nat.le_of_ble_eq_true rfl) ?_
  intro p e s m args below meth c ls X hr hlocks hK hP hl
  obtain ⟨hx, hb, hml, hown, hts⟩ := id X
  have hS : va_S (ipA ad n) s.heap s.heap [] := va_S.rf
  have hl : lv_has ls 10 [(0, .ref (ad mb)), (1, .int x), (2, .int (nI ni)), (3, .int z)] := hl
  refine lv_aload_n hx hb dX13_counter_0 rfl (lv_at hl 0 rfl) ?_
  refine lv_iconst (v := 0) hx hb dX13_counter_1 (by decide) ?_
  refine q_put (fs := modF ad mb mv) (fs' := modF ad mb (upd mv 2 0)) X hK hI hP hS fX13_counter_173 fw_12_2 h_mb m_mb rfl rfl (Nat.le_of_ble_eq_true rfl) rfl dX13_counter_2 (fun H locs hP hS => ?_)
  refine lv_iload_n hx hb dX13_counter_5 rfl (lv_at hl 3 rfl) ?_
  refine lv_if_lt (tgt := 14) hx hb dX13_counter_6 (by decide) (fun c_6 => ?_) (fun c_6 => ?_)
  · skip
    refine lv_aload_n hx hb dX13_counter_14 rfl (lv_at hl 0 rfl) ?_
    refine lv_iconst (v := 1) hx hb dX13_counter_15 (by decide) ?_
    refine q_wrVi (As := [.int 1]) (rest := []) (c_X13_fail l D cB cI cJ ad n (va_up M mb (.inr (12, modF ad mb (upd mv 2 0)))) hI mb (upd mv 2 0) 1 h_mb (va_up_self M mb (.inr (12, modF ad mb (upd mv 2 0)))) ) X hK hP hS hl.1 rfl gX13_counter_X13_fail yd_X13_fail ⟨Nat.le_of_ble_eq_true rfl, Nat.le_of_ble_eq_true rfl⟩ h_mb (va_up_self M mb (.inr (12, modF ad mb (upd mv 2 0)))) (ci := 12) rfl rfl (Nat.le_of_ble_eq_true rfl) ⟨Nat.zero_le _, Nat.zero_le _⟩ dX13_counter_16 (fun r5 M4 H locs hp3 hP hS => ?_)
    obtain ⟨rfl, g6, fr7⟩ := hp3
    exact q_wzret X hr hlocks hP hS (rfl) ⟨(by rw [s_X13_counterT, if_pos c_6]), (by rw [s_X13_counterT_0_f, if_pos c_6]; exact ((fr7 (mb + 18) (by omega)).trans ((va_up_ne M (.inr (12, modF ad mb (upd mv 2 0))) (show mb + 18 ≠ mb by omega)).trans m_mb_18))), (by rw [s_X13_counterT_1_f, if_pos c_6]; exact ((fr7 (mb + 29) (by omega)).trans ((va_up_ne M (.inr (12, modF ad mb (upd mv 2 0))) (show mb + 29 ≠ mb by omega)).trans m_mb_29))), (by rw [s_X13_counterT_2_1, if_pos c_6]; exact g6), (fun q n0 n1 n2 => ((fr7 q n2).trans (va_up_ne _ _ n2)))⟩ dX13_counter_19
  · skip
    refine lv_iload_n hx hb dX13_counter_9 rfl (lv_at hl 3 rfl) ?_
    refine lv_iconst (v := 1) hx hb dX13_counter_10 (by decide) ?_
    refine lv_icmp_le (tgt := 20) hx hb dX13_counter_11 (by decide) (fun c_11 => ?_) (fun c_11 => ?_)
    · skip
      refine lv_iload_n hx hb dX13_counter_20 rfl (lv_at hl 2 rfl) ?_
      refine lv_i2l hx hb dX13_counter_21 rfl ?_
      refine lv_lconst (v := 0) hx hb dX13_counter_22 (by decide) ?_
      refine lv_ldc2 (v := 200) hx hb hown (hts _ (by decide +kernel)) dX13_counter_23 ?_
      refine q_rdS (As := [.long ((nI ni).toInt64), .long 0, .long 200]) (rest := []) (c_X13_isIn l D cB cI cJ ad n (va_up M mb (.inr (12, modF ad mb (upd mv 2 0)))) ((nI ni).toInt64) 0 200   ) X hK hP hS hl.1 rfl gX13_counter_X13_isIn yd_X13_isIn ⟨Nat.le_of_ble_eq_true rfl, Nat.le_of_ble_eq_true rfl⟩ rfl (Nat.le_of_ble_eq_true rfl) ⟨Nat.zero_le _, Nat.zero_le _⟩ dX13_counter_26 ?_
      refine lv_if_ne (tgt := 38) hx hb dX13_counter_29 (by decide) (fun c_29 => ?_) (fun c_29 => ?_)
      · skip
        refine lv_iconst (v := 0) hx hb dX13_counter_38 (by decide) ?_
        refine lv_istore (lv' := [(4, .int 0), (0, .ref (ad mb)), (1, .int x), (2, .int (nI ni)), (3, .int z)]) hx hb dX13_counter_39 hl (by decide) rfl (fun ls hl => ?_)
        have loop_41 : ∀ (fuel : Nat) (t41 : Nat) (y41_0 : Nat → Int32), nt - (t41) < fuel → t41 ≤ nt → y41_0 = (s_X13_counterT_41 placeF placeWasF t41) → ∀ (ML41 : Nat → va_E) (H : Heap) (locs : List Loc), ML41 (mb + 29) = .inl (cI, 12, .inl y41_0) → (∀ q : Nat, q ≠ mb + 29 → ML41 q = va_up M mb (.inr (12, modF ad mb (upd mv 2 0))) q) → va_P D vwCl (ip ad n ML41) H → va_S (ipA ad n) s.heap H locs → ∀ (ls : Array Slot), lv_has ls 10 [(4, .int (nI t41)), (0, .ref (ad mb)), (1, .int x), (2, .int (nI ni)), (3, .int z)] → W p l e (rmOf 1 25) s m args below meth c H locs 0 0 (MQ below (va_Qi (fun r M' => r = s_X13_counterT ni z ∧ M' (mb + 18) = .inl (cI, 24, .inl (s_X13_counterT_0_f nt placeF placeWasF ni z)) ∧ M' (mb + 29) = .inl (cI, 12, .inl (s_X13_counterT_1_f nt placeF placeWasF ni z)) ∧ M' mb = .inr (12, modF ad mb (s_X13_counterT_2_1 mv ni z)) ∧ ∀ q : Nat, q ≠ mb + 18 → q ≠ mb + 29 → q ≠ mb → M' q = M q) (fun M' t => va_P D vwCl (ip ad n M') t.heap) (ipA ad n)) args s 0 0 (ipA ad n)) (F0 m 41 ls []) := by
          intro fuel
          induction fuel with
          | zero =>
            intro t41 y41_0 hz
            exact absurd hz (Nat.not_lt_zero _)
          | succ fuel ih_41 =>
            intro t41 y41_0 hz_41 h_t41 e_y41_0 ML41 H locs mL41_0 fL41 hP hS ls hl
            skip
            refine lv_iload hx hb dX13_counter_41 (lv_at hl 0 rfl) ?_
            refine lv_aload_n hx hb dX13_counter_43 rfl (lv_at hl 1 rfl) ?_
            refine q_get (v := .ref (ad (mb + 3))) (fs := modF ad mb (upd mv 2 0)) X hK hP fX13_counter_40 h_mb ((fL41 mb (by omega)).trans (va_up_self M mb (.inr (12, modF ad mb (upd mv 2 0))))) rfl dX13_counter_44 ?_
            refine lv_iconst (v := 2) hx hb dX13_counter_47 (by decide) ?_
            refine q_ialdN (f := toldF) (k := 14) X hK hP 2 h_mb_3 ((fL41 (mb + 3) (by omega)).trans ((va_up_ne M (.inr (12, modF ad mb (upd mv 2 0))) (show mb + 3 ≠ mb by omega)).trans m_mb_3)) (by decide) (by decide) dX13_counter_48 ?_
            refine lv_icmp_ge (tgt := 72) hx hb dX13_counter_49 (by decide) (fun c_49 => ?_) (fun c_49 => ?_)
            · rw [k2] at c_49
              have h9_41 : t41 = nt := eq_of_le (t := t41) (k := nt) c_49 (by omega) h_t41
              subst t41
              subst e_y41_0
              refine lv_iload_n hx hb dX13_counter_72 rfl (lv_at hl 2 rfl) ?_
              refine lv_istore (lv' := [(4, .int x), (0, .ref (ad mb)), (1, .int x), (2, .int (nI ni)), (3, .int z)]) hx hb dX13_counter_73 hl (by decide) rfl (fun ls hl => ?_)
              refine lv_iconst (v := 0) hx hb dX13_counter_75 (by decide) ?_
              refine lv_istore (lv' := [(5, .int 0), (4, .int x), (0, .ref (ad mb)), (1, .int x), (2, .int (nI ni)), (3, .int z)]) hx hb dX13_counter_76 hl (by decide) rfl (fun ls hl => ?_)
              refine lv_iconst (v := 0) hx hb dX13_counter_78 (by decide) ?_
              refine lv_istore (lv' := [(6, .int 0), (5, .int 0), (4, .int x), (0, .ref (ad mb)), (1, .int x), (2, .int (nI ni)), (3, .int z)]) hx hb dX13_counter_79 hl (by decide) rfl (fun ls hl => ?_)
              refine lv_iconst (v := 0) hx hb dX13_counter_81 (by decide) ?_
              refine lv_istore (lv' := [(7, .int 0), (6, .int 0), (5, .int 0), (4, .int x), (0, .ref (ad mb)), (1, .int x), (2, .int (nI ni)), (3, .int z)]) hx hb dX13_counter_82 hl (by decide) rfl (fun ls hl => ?_)
              refine lv_iload hx hb dX13_counter_84 (lv_at hl 0 rfl) ?_
              refine lv_iload_n hx hb dX13_counter_86 rfl (lv_at hl 6 rfl) ?_
              refine lv_icmp_ge (tgt := 228) hx hb dX13_counter_87 (by decide) (fun c_87 => ?_) (fun c_87 => ?_)
              · skip
                refine lv_iconst (v := 0) hx hb dX13_counter_228 (by decide) ?_
                refine lv_istore (lv' := [(7, .int 0), (6, .int 0), (5, .int 0), (4, .int x), (0, .ref (ad mb)), (1, .int x), (2, .int (nI ni)), (3, .int z)]) hx hb dX13_counter_229 hl (by decide) rfl (fun ls hl => ?_)
                have loop_231 : ∀ (fuel : Nat) (t231 : Nat) (y231_0 : Nat → Int32), nt - (t231) < fuel → t231 ≤ nt → y231_0 = (s_X13_counterT_231 nt placeF placeWasF placeF t231) → ∀ (ML231 : Nat → va_E) (H : Heap) (locs : List Loc), ML231 (mb + 18) = .inl (cI, 24, .inl y231_0) → (∀ q : Nat, q ≠ mb + 18 → ML231 q = ML41 q) → va_P D vwCl (ip ad n ML231) H → va_S (ipA ad n) s.heap H locs → ∀ (ls : Array Slot), lv_has ls 10 [(7, .int (nI t231)), (6, .int 0), (5, .int 0), (4, .int x), (0, .ref (ad mb)), (1, .int x), (2, .int (nI ni)), (3, .int z)] → W p l e (rmOf 1 25) s m args below meth c H locs 0 0 (MQ below (va_Qi (fun r M' => r = s_X13_counterT ni z ∧ M' (mb + 18) = .inl (cI, 24, .inl (s_X13_counterT_0_f nt placeF placeWasF ni z)) ∧ M' (mb + 29) = .inl (cI, 12, .inl (s_X13_counterT_1_f nt placeF placeWasF ni z)) ∧ M' mb = .inr (12, modF ad mb (s_X13_counterT_2_1 mv ni z)) ∧ ∀ q : Nat, q ≠ mb + 18 → q ≠ mb + 29 → q ≠ mb → M' q = M q) (fun M' t => va_P D vwCl (ip ad n M') t.heap) (ipA ad n)) args s 0 0 (ipA ad n)) (F0 m 231 ls []) := by
                  intro fuel
                  induction fuel with
                  | zero =>
                    intro t231 y231_0 hz
                    exact absurd hz (Nat.not_lt_zero _)
                  | succ fuel ih_231 =>
                    intro t231 y231_0 hz_231 h_t231 e_y231_0 ML231 H locs mL231_0 fL231 hP hS ls hl
                    skip
                    refine lv_iload hx hb dX13_counter_231 (lv_at hl 0 rfl) ?_
                    refine lv_aload_n hx hb dX13_counter_233 rfl (lv_at hl 4 rfl) ?_
                    refine q_get (v := .ref (ad (mb + 3))) (fs := modF ad mb (upd mv 2 0)) X hK hP fX13_counter_40 h_mb ((fL231 mb (by omega)).trans ((fL41 mb (by omega)).trans (va_up_self M mb (.inr (12, modF ad mb (upd mv 2 0)))))) rfl dX13_counter_234 ?_
                    refine lv_iconst (v := 2) hx hb dX13_counter_237 (by decide) ?_
                    refine q_ialdN (f := toldF) (k := 14) X hK hP 2 h_mb_3 ((fL231 (mb + 3) (by omega)).trans ((fL41 (mb + 3) (by omega)).trans ((va_up_ne M (.inr (12, modF ad mb (upd mv 2 0))) (show mb + 3 ≠ mb by omega)).trans m_mb_3))) (by decide) (by decide) dX13_counter_238 ?_
                    refine lv_icmp_ge (tgt := 262) hx hb dX13_counter_239 (by decide) (fun c_239 => ?_) (fun c_239 => ?_)
                    · rw [k2] at c_239
                      have h9_231 : t231 = nt := eq_of_le (t := t231) (k := nt) c_239 (by omega) h_t231
                      subst t231
                      subst e_y231_0
                      refine lv_iload_n hx hb dX13_counter_262 rfl (lv_at hl 7 rfl) ?_
                      refine lv_if_ne (tgt := 271) hx hb dX13_counter_263 (by decide) (fun c_263 => ?_) (fun c_263 => ?_)
                      · skip
                        refine lv_iload hx hb dX13_counter_271 (lv_at hl 1 rfl) ?_
                        exact q_wzret X hr hlocks hP hS (rfl) ⟨(by rw [s_X13_counterT, if_neg c_6, if_pos c_11, if_neg c_29, if_pos c_87, if_neg c_263]), (by rw [s_X13_counterT_0_f, if_neg c_6, if_pos c_11, if_neg c_29, if_pos c_87, if_neg c_263]; exact mL231_0), (by rw [s_X13_counterT_1_f, if_neg c_6, if_pos c_11, if_neg c_29, if_pos c_87, if_neg c_263]; exact ((fL231 (mb + 29) (by omega)).trans mL41_0)), (by rw [s_X13_counterT_2_1, if_neg c_6, if_pos c_11, if_neg c_29, if_pos c_87, if_neg c_263]; exact ((fL231 mb (by omega)).trans ((fL41 mb (by omega)).trans (va_up_self M mb (.inr (12, modF ad mb (upd mv 2 0))))))), (fun q n0 n1 n2 => ((fL231 q n0).trans ((fL41 q n1).trans (va_up_ne _ _ n2))))⟩ dX13_counter_273
                      · skip
                        refine lv_iload hx hb dX13_counter_266 (lv_at hl 2 rfl) ?_
                        refine lv_goto (tgt := 273) hx hb dX13_counter_268 (by decide) ?_
                        exact q_wzret X hr hlocks hP hS (rfl) ⟨(by rw [s_X13_counterT, if_neg c_6, if_pos c_11, if_neg c_29, if_pos c_87, if_pos c_263]), (by rw [s_X13_counterT_0_f, if_neg c_6, if_pos c_11, if_neg c_29, if_pos c_87, if_pos c_263]; exact mL231_0), (by rw [s_X13_counterT_1_f, if_neg c_6, if_pos c_11, if_neg c_29, if_pos c_87, if_pos c_263]; exact ((fL231 (mb + 29) (by omega)).trans mL41_0)), (by rw [s_X13_counterT_2_1, if_neg c_6, if_pos c_11, if_neg c_29, if_pos c_87, if_pos c_263]; exact ((fL231 mb (by omega)).trans ((fL41 mb (by omega)).trans (va_up_self M mb (.inr (12, modF ad mb (upd mv 2 0))))))), (fun q n0 n1 n2 => ((fL231 q n0).trans ((fL41 q n1).trans (va_up_ne _ _ n2))))⟩ dX13_counter_273
                    · rw [k2] at c_239
                      have h9_231 : t231 < nt := lt_of_nlt (t := t231) (k := nt) c_239 (by omega) h_t231
                      refine lv_aload_n hx hb dX13_counter_242 rfl (lv_at hl 4 rfl) ?_
                      refine q_get (v := .ref (ad (mb + 18))) (fs := modF ad mb (upd mv 2 0)) X hK hP fX13_counter_84 h_mb ((fL231 mb (by omega)).trans ((fL41 mb (by omega)).trans (va_up_self M mb (.inr (12, modF ad mb (upd mv 2 0)))))) rfl dX13_counter_243 ?_
                      refine lv_iload hx hb dX13_counter_246 (lv_at hl 0 rfl) ?_
                      refine lv_aload_n hx hb dX13_counter_248 rfl (lv_at hl 4 rfl) ?_
                      refine q_get (v := .ref (ad (mb + 29))) (fs := modF ad mb (upd mv 2 0)) X hK hP fX13_counter_121 h_mb ((fL231 mb (by omega)).trans ((fL41 mb (by omega)).trans (va_up_self M mb (.inr (12, modF ad mb (upd mv 2 0)))))) rfl dX13_counter_249 ?_
                      refine lv_iload hx hb dX13_counter_252 (lv_at hl 0 rfl) ?_
                      refine q_ialdN (f := (s_X13_counterT_41 placeF placeWasF nt)) (k := 12) X hK hP t231 h_mb_29 ((fL231 (mb + 29) (by omega)).trans mL41_0) (by omega) (by decide) dX13_counter_254 ?_
                      refine q_iastN (f := y231_0) (k := 24) X hK hI hP hS t231 h_mb_18 mL231_0 (by omega) (by decide) dX13_counter_255 (fun H locs hP hS => ?_)
                      refine lv_iinc (v := ((nI t231) + 1)) (lv' := [(7, .int ((nI t231) + 1)), (6, .int 0), (5, .int 0), (4, .int x), (0, .ref (ad mb)), (1, .int x), (2, .int (nI ni)), (3, .int z)]) hx hb dX13_counter_256 hl (k := 0) rfl rfl (by decide) rfl (fun ls hl => ?_)
                      refine lv_goto (tgt := 231) hx hb dX13_counter_259 (by decide) ?_
                      exact ih_231 (t231 + 1) (upd y231_0 t231 ((s_X13_counterT_41 placeF placeWasF nt) t231)) (by omega) (by omega) (by rw [s_X13_counterT_231, ← e_y231_0, s_X13_counterT_231s]) _ _ _ (va_up_self ML231 (mb + 18) (.inl (cI, 24, .inl (upd y231_0 t231 ((s_X13_counterT_41 placeF placeWasF nt) t231))))) (fun q n0 => ((va_up_ne _ _ n0).trans (fL231 q n0))) hP hS ls (by rw [(show nI (t231 + 1) = nI t231 + 1 by exact nI_succ _)]; exact lv_sub hl [0, 1, 2, 3, 4, 5, 6, 7] rfl)
                exact loop_231 (nt + 1) 0 placeF (by omega) (by omega) (by rfl) _ _ _ ((fL41 (mb + 18) (by omega)).trans ((va_up_ne M (.inr (12, modF ad mb (upd mv 2 0))) (show mb + 18 ≠ mb by omega)).trans m_mb_18)) (fun q n0 => rfl) hP hS ls (lv_sub hl [0, 1, 2, 3, 4, 5, 6, 7] rfl)
              · skip
                refine lv_aload_n hx hb dX13_counter_90 rfl (lv_at hl 4 rfl) ?_
                refine q_get (v := .ref (ad (mb + 3))) (fs := modF ad mb (upd mv 2 0)) X hK hP fX13_counter_40 h_mb ((fL41 mb (by omega)).trans (va_up_self M mb (.inr (12, modF ad mb (upd mv 2 0))))) rfl dX13_counter_91 ?_
                refine lv_iconst (v := 2) hx hb dX13_counter_94 (by decide) ?_
                refine q_ialdN (f := toldF) (k := 14) X hK hP 2 h_mb_3 ((fL41 (mb + 3) (by omega)).trans ((va_up_ne M (.inr (12, modF ad mb (upd mv 2 0))) (show mb + 3 ≠ mb by omega)).trans m_mb_3)) (by decide) (by decide) dX13_counter_95 ?_
                refine lv_if_le (tgt := 228) hx hb dX13_counter_96 (by decide) (fun c_96 => ?_) (fun c_96 => ?_)
                · skip
                  refine lv_iconst (v := 0) hx hb dX13_counter_228 (by decide) ?_
                  refine lv_istore (lv' := [(7, .int 0), (6, .int 0), (5, .int 0), (4, .int x), (0, .ref (ad mb)), (1, .int x), (2, .int (nI ni)), (3, .int z)]) hx hb dX13_counter_229 hl (by decide) rfl (fun ls hl => ?_)
                  have loop_231 : ∀ (fuel : Nat) (t231 : Nat) (y231_0 : Nat → Int32), nt - (t231) < fuel → t231 ≤ nt → y231_0 = (s_X13_counterT_231 nt placeF placeWasF placeF t231) → ∀ (ML231 : Nat → va_E) (H : Heap) (locs : List Loc), ML231 (mb + 18) = .inl (cI, 24, .inl y231_0) → (∀ q : Nat, q ≠ mb + 18 → ML231 q = ML41 q) → va_P D vwCl (ip ad n ML231) H → va_S (ipA ad n) s.heap H locs → ∀ (ls : Array Slot), lv_has ls 10 [(7, .int (nI t231)), (6, .int 0), (5, .int 0), (4, .int x), (0, .ref (ad mb)), (1, .int x), (2, .int (nI ni)), (3, .int z)] → W p l e (rmOf 1 25) s m args below meth c H locs 0 0 (MQ below (va_Qi (fun r M' => r = s_X13_counterT ni z ∧ M' (mb + 18) = .inl (cI, 24, .inl (s_X13_counterT_0_f nt placeF placeWasF ni z)) ∧ M' (mb + 29) = .inl (cI, 12, .inl (s_X13_counterT_1_f nt placeF placeWasF ni z)) ∧ M' mb = .inr (12, modF ad mb (s_X13_counterT_2_1 mv ni z)) ∧ ∀ q : Nat, q ≠ mb + 18 → q ≠ mb + 29 → q ≠ mb → M' q = M q) (fun M' t => va_P D vwCl (ip ad n M') t.heap) (ipA ad n)) args s 0 0 (ipA ad n)) (F0 m 231 ls []) := by
                    intro fuel
                    induction fuel with
                    | zero =>
                      intro t231 y231_0 hz
                      exact absurd hz (Nat.not_lt_zero _)
                    | succ fuel ih_231 =>
                      intro t231 y231_0 hz_231 h_t231 e_y231_0 ML231 H locs mL231_0 fL231 hP hS ls hl
                      skip
                      refine lv_iload hx hb dX13_counter_231 (lv_at hl 0 rfl) ?_
                      refine lv_aload_n hx hb dX13_counter_233 rfl (lv_at hl 4 rfl) ?_
                      refine q_get (v := .ref (ad (mb + 3))) (fs := modF ad mb (upd mv 2 0)) X hK hP fX13_counter_40 h_mb ((fL231 mb (by omega)).trans ((fL41 mb (by omega)).trans (va_up_self M mb (.inr (12, modF ad mb (upd mv 2 0)))))) rfl dX13_counter_234 ?_
                      refine lv_iconst (v := 2) hx hb dX13_counter_237 (by decide) ?_
                      refine q_ialdN (f := toldF) (k := 14) X hK hP 2 h_mb_3 ((fL231 (mb + 3) (by omega)).trans ((fL41 (mb + 3) (by omega)).trans ((va_up_ne M (.inr (12, modF ad mb (upd mv 2 0))) (show mb + 3 ≠ mb by omega)).trans m_mb_3))) (by decide) (by decide) dX13_counter_238 ?_
                      refine lv_icmp_ge (tgt := 262) hx hb dX13_counter_239 (by decide) (fun c_239 => ?_) (fun c_239 => ?_)
                      · rw [k2] at c_239
                        have h9_231 : t231 = nt := eq_of_le (t := t231) (k := nt) c_239 (by omega) h_t231
                        subst t231
                        subst e_y231_0
                        refine lv_iload_n hx hb dX13_counter_262 rfl (lv_at hl 7 rfl) ?_
                        refine lv_if_ne (tgt := 271) hx hb dX13_counter_263 (by decide) (fun c_263 => ?_) (fun c_263 => ?_)
                        · skip
                          refine lv_iload hx hb dX13_counter_271 (lv_at hl 1 rfl) ?_
                          exact q_wzret X hr hlocks hP hS (rfl) ⟨(by rw [s_X13_counterT, if_neg c_6, if_pos c_11, if_neg c_29, if_neg c_87, if_neg c_263]), (by rw [s_X13_counterT_0_f, if_neg c_6, if_pos c_11, if_neg c_29, if_neg c_87, if_neg c_263]; exact mL231_0), (by rw [s_X13_counterT_1_f, if_neg c_6, if_pos c_11, if_neg c_29, if_neg c_87, if_neg c_263]; exact ((fL231 (mb + 29) (by omega)).trans mL41_0)), (by rw [s_X13_counterT_2_1, if_neg c_6, if_pos c_11, if_neg c_29, if_neg c_87, if_neg c_263]; exact ((fL231 mb (by omega)).trans ((fL41 mb (by omega)).trans (va_up_self M mb (.inr (12, modF ad mb (upd mv 2 0))))))), (fun q n0 n1 n2 => ((fL231 q n0).trans ((fL41 q n1).trans (va_up_ne _ _ n2))))⟩ dX13_counter_273
                        · skip
                          refine lv_iload hx hb dX13_counter_266 (lv_at hl 2 rfl) ?_
                          refine lv_goto (tgt := 273) hx hb dX13_counter_268 (by decide) ?_
                          exact q_wzret X hr hlocks hP hS (rfl) ⟨(by rw [s_X13_counterT, if_neg c_6, if_pos c_11, if_neg c_29, if_neg c_87, if_pos c_263]), (by rw [s_X13_counterT_0_f, if_neg c_6, if_pos c_11, if_neg c_29, if_neg c_87, if_pos c_263]; exact mL231_0), (by rw [s_X13_counterT_1_f, if_neg c_6, if_pos c_11, if_neg c_29, if_neg c_87, if_pos c_263]; exact ((fL231 (mb + 29) (by omega)).trans mL41_0)), (by rw [s_X13_counterT_2_1, if_neg c_6, if_pos c_11, if_neg c_29, if_neg c_87, if_pos c_263]; exact ((fL231 mb (by omega)).trans ((fL41 mb (by omega)).trans (va_up_self M mb (.inr (12, modF ad mb (upd mv 2 0))))))), (fun q n0 n1 n2 => ((fL231 q n0).trans ((fL41 q n1).trans (va_up_ne _ _ n2))))⟩ dX13_counter_273
                      · rw [k2] at c_239
                        have h9_231 : t231 < nt := lt_of_nlt (t := t231) (k := nt) c_239 (by omega) h_t231
                        refine lv_aload_n hx hb dX13_counter_242 rfl (lv_at hl 4 rfl) ?_
                        refine q_get (v := .ref (ad (mb + 18))) (fs := modF ad mb (upd mv 2 0)) X hK hP fX13_counter_84 h_mb ((fL231 mb (by omega)).trans ((fL41 mb (by omega)).trans (va_up_self M mb (.inr (12, modF ad mb (upd mv 2 0)))))) rfl dX13_counter_243 ?_
                        refine lv_iload hx hb dX13_counter_246 (lv_at hl 0 rfl) ?_
                        refine lv_aload_n hx hb dX13_counter_248 rfl (lv_at hl 4 rfl) ?_
                        refine q_get (v := .ref (ad (mb + 29))) (fs := modF ad mb (upd mv 2 0)) X hK hP fX13_counter_121 h_mb ((fL231 mb (by omega)).trans ((fL41 mb (by omega)).trans (va_up_self M mb (.inr (12, modF ad mb (upd mv 2 0)))))) rfl dX13_counter_249 ?_
                        refine lv_iload hx hb dX13_counter_252 (lv_at hl 0 rfl) ?_
                        refine q_ialdN (f := (s_X13_counterT_41 placeF placeWasF nt)) (k := 12) X hK hP t231 h_mb_29 ((fL231 (mb + 29) (by omega)).trans mL41_0) (by omega) (by decide) dX13_counter_254 ?_
                        refine q_iastN (f := y231_0) (k := 24) X hK hI hP hS t231 h_mb_18 mL231_0 (by omega) (by decide) dX13_counter_255 (fun H locs hP hS => ?_)
                        refine lv_iinc (v := ((nI t231) + 1)) (lv' := [(7, .int ((nI t231) + 1)), (6, .int 0), (5, .int 0), (4, .int x), (0, .ref (ad mb)), (1, .int x), (2, .int (nI ni)), (3, .int z)]) hx hb dX13_counter_256 hl (k := 0) rfl rfl (by decide) rfl (fun ls hl => ?_)
                        refine lv_goto (tgt := 231) hx hb dX13_counter_259 (by decide) ?_
                        exact ih_231 (t231 + 1) (upd y231_0 t231 ((s_X13_counterT_41 placeF placeWasF nt) t231)) (by omega) (by omega) (by rw [s_X13_counterT_231, ← e_y231_0, s_X13_counterT_231s]) _ _ _ (va_up_self ML231 (mb + 18) (.inl (cI, 24, .inl (upd y231_0 t231 ((s_X13_counterT_41 placeF placeWasF nt) t231))))) (fun q n0 => ((va_up_ne _ _ n0).trans (fL231 q n0))) hP hS ls (by rw [(show nI (t231 + 1) = nI t231 + 1 by exact nI_succ _)]; exact lv_sub hl [0, 1, 2, 3, 4, 5, 6, 7] rfl)
                  exact loop_231 (nt + 1) 0 placeF (by omega) (by omega) (by rfl) _ _ _ ((fL41 (mb + 18) (by omega)).trans ((va_up_ne M (.inr (12, modF ad mb (upd mv 2 0))) (show mb + 18 ≠ mb by omega)).trans m_mb_18)) (fun q n0 => rfl) hP hS ls (lv_sub hl [0, 1, 2, 3, 4, 5, 6, 7] rfl)
                · exact absurd (by rw [k2, h0t]; decide) c_96
            · rw [k2] at c_49
              have h9_41 : t41 < nt := lt_of_nlt (t := t41) (k := nt) c_49 (by omega) h_t41
              refine lv_aload_n hx hb dX13_counter_52 rfl (lv_at hl 1 rfl) ?_
              refine q_get (v := .ref (ad (mb + 29))) (fs := modF ad mb (upd mv 2 0)) X hK hP fX13_counter_121 h_mb ((fL41 mb (by omega)).trans (va_up_self M mb (.inr (12, modF ad mb (upd mv 2 0))))) rfl dX13_counter_53 ?_
              refine lv_iload hx hb dX13_counter_56 (lv_at hl 0 rfl) ?_
              refine lv_aload_n hx hb dX13_counter_58 rfl (lv_at hl 1 rfl) ?_
              refine q_get (v := .ref (ad (mb + 18))) (fs := modF ad mb (upd mv 2 0)) X hK hP fX13_counter_84 h_mb ((fL41 mb (by omega)).trans (va_up_self M mb (.inr (12, modF ad mb (upd mv 2 0))))) rfl dX13_counter_59 ?_
              refine lv_iload hx hb dX13_counter_62 (lv_at hl 0 rfl) ?_
              refine q_ialdN (f := placeF) (k := 24) X hK hP t41 h_mb_18 ((fL41 (mb + 18) (by omega)).trans ((va_up_ne M (.inr (12, modF ad mb (upd mv 2 0))) (show mb + 18 ≠ mb by omega)).trans m_mb_18)) (by omega) (by decide) dX13_counter_64 ?_
              refine q_iastN (f := y41_0) (k := 12) X hK hI hP hS t41 h_mb_29 mL41_0 (by omega) (by decide) dX13_counter_65 (fun H locs hP hS => ?_)
              refine lv_iinc (v := ((nI t41) + 1)) (lv' := [(4, .int ((nI t41) + 1)), (0, .ref (ad mb)), (1, .int x), (2, .int (nI ni)), (3, .int z)]) hx hb dX13_counter_66 hl (k := 0) rfl rfl (by decide) rfl (fun ls hl => ?_)
              refine lv_goto (tgt := 41) hx hb dX13_counter_69 (by decide) ?_
              exact ih_41 (t41 + 1) (upd y41_0 t41 (placeF t41)) (by omega) (by omega) (by rw [s_X13_counterT_41, ← e_y41_0, s_X13_counterT_41s]) _ _ _ (va_up_self ML41 (mb + 29) (.inl (cI, 12, .inl (upd y41_0 t41 (placeF t41))))) (fun q n0 => ((va_up_ne _ _ n0).trans (fL41 q n0))) hP hS ls (by rw [(show nI (t41 + 1) = nI t41 + 1 by exact nI_succ _)]; exact lv_sub hl [0, 1, 2, 3, 4] rfl)
        exact loop_41 (nt + 1) 0 placeWasF (by omega) (by omega) (by rfl) _ _ _ ((va_up_ne M (.inr (12, modF ad mb (upd mv 2 0))) (show mb + 29 ≠ mb by omega)).trans m_mb_29) (fun q n0 => rfl) hP hS ls (lv_sub hl [0, 1, 2, 3, 4] rfl)
      · skip
        refine lv_aload_n hx hb dX13_counter_32 rfl (lv_at hl 0 rfl) ?_
        refine lv_iconst (v := 2) hx hb dX13_counter_33 (by decide) ?_
        refine q_wrVi (As := [.int 2]) (rest := []) (c_X13_fail l D cB cI cJ ad n (va_up M mb (.inr (12, modF ad mb (upd mv 2 0)))) hI mb (upd mv 2 0) 2 h_mb (va_up_self M mb (.inr (12, modF ad mb (upd mv 2 0)))) ) X hK hP hS hl.1 rfl gX13_counter_X13_fail yd_X13_fail ⟨Nat.le_of_ble_eq_true rfl, Nat.le_of_ble_eq_true rfl⟩ h_mb (va_up_self M mb (.inr (12, modF ad mb (upd mv 2 0)))) (ci := 12) rfl rfl (Nat.le_of_ble_eq_true rfl) ⟨Nat.zero_le _, Nat.zero_le _⟩ dX13_counter_34 (fun r16 M15 H locs hp14 hP hS => ?_)
        obtain ⟨rfl, g17, fr18⟩ := hp14
        exact q_wzret X hr hlocks hP hS (rfl) ⟨(by rw [s_X13_counterT, if_neg c_6, if_pos c_11, if_pos c_29]), (by rw [s_X13_counterT_0_f, if_neg c_6, if_pos c_11, if_pos c_29]; exact ((fr18 (mb + 18) (by omega)).trans ((va_up_ne M (.inr (12, modF ad mb (upd mv 2 0))) (show mb + 18 ≠ mb by omega)).trans m_mb_18))), (by rw [s_X13_counterT_1_f, if_neg c_6, if_pos c_11, if_pos c_29]; exact ((fr18 (mb + 29) (by omega)).trans ((va_up_ne M (.inr (12, modF ad mb (upd mv 2 0))) (show mb + 29 ≠ mb by omega)).trans m_mb_29))), (by rw [s_X13_counterT_2_1, if_neg c_6, if_pos c_11, if_pos c_29]; exact g17), (fun q n0 n1 n2 => ((fr18 q n2).trans (va_up_ne _ _ n2)))⟩ dX13_counter_37
    · skip
      refine lv_aload_n hx hb dX13_counter_14 rfl (lv_at hl 0 rfl) ?_
      refine lv_iconst (v := 1) hx hb dX13_counter_15 (by decide) ?_
      refine q_wrVi (As := [.int 1]) (rest := []) (c_X13_fail l D cB cI cJ ad n (va_up M mb (.inr (12, modF ad mb (upd mv 2 0)))) hI mb (upd mv 2 0) 1 h_mb (va_up_self M mb (.inr (12, modF ad mb (upd mv 2 0)))) ) X hK hP hS hl.1 rfl gX13_counter_X13_fail yd_X13_fail ⟨Nat.le_of_ble_eq_true rfl, Nat.le_of_ble_eq_true rfl⟩ h_mb (va_up_self M mb (.inr (12, modF ad mb (upd mv 2 0)))) (ci := 12) rfl rfl (Nat.le_of_ble_eq_true rfl) ⟨Nat.zero_le _, Nat.zero_le _⟩ dX13_counter_16 (fun r21 M20 H locs hp19 hP hS => ?_)
      obtain ⟨rfl, g22, fr23⟩ := hp19
      exact q_wzret X hr hlocks hP hS (rfl) ⟨(by rw [s_X13_counterT, if_neg c_6, if_neg c_11]), (by rw [s_X13_counterT_0_f, if_neg c_6, if_neg c_11]; exact ((fr23 (mb + 18) (by omega)).trans ((va_up_ne M (.inr (12, modF ad mb (upd mv 2 0))) (show mb + 18 ≠ mb by omega)).trans m_mb_18))), (by rw [s_X13_counterT_1_f, if_neg c_6, if_neg c_11]; exact ((fr23 (mb + 29) (by omega)).trans ((va_up_ne M (.inr (12, modF ad mb (upd mv 2 0))) (show mb + 29 ≠ mb by omega)).trans m_mb_29))), (by rw [s_X13_counterT_2_1, if_neg c_6, if_neg c_11]; exact g22), (fun q n0 n1 n2 => ((fr23 q n2).trans (va_up_ne _ _ n2)))⟩ dX13_counter_19
def s_X13_counterC_41s (placeF : Nat → Int32) (t41 : Nat) (y41_0 : Nat → Int32) : (Nat → Int32) := (upd y41_0 t41 (placeF t41))
def s_X13_counterC_41 (placeF : Nat → Int32) (z0 : Nat → Int32) : Nat → (Nat → Int32)
  | 0 => z0
  | t + 1 => s_X13_counterC_41s placeF t (s_X13_counterC_41 placeF z0 t)
def s_X13_counterC_231s (nt : Nat) (placeF : Nat → Int32) (placeWasF : Nat → Int32) (t231 : Nat) (y231_0 : Nat → Int32) : (Nat → Int32) := (upd y231_0 t231 ((s_X13_counterC_41 placeF placeWasF nt) t231))
def s_X13_counterC_231 (nt : Nat) (placeF : Nat → Int32) (placeWasF : Nat → Int32) (z0 : Nat → Int32) : Nat → (Nat → Int32)
  | 0 => z0
  | t + 1 => s_X13_counterC_231s nt placeF placeWasF t (s_X13_counterC_231 nt placeF placeWasF z0 t)
def s_X13_counterC (toldF : Nat → Int32) (ni : Nat) (z : Int32) : Int32 := if z < 0 then (s_X13_fail) else if z ≤ 1 then if (s_X13_isIn ((nI ni).toInt64) 0 200) = 0 then (s_X13_fail) else if (nI ni) ≤ 0 then if z = 0 then 0 else 0 else if (toldF 2) ≤ 0 then if z = 0 then 0 else 0 else if z = 0 then 0 else 0 else (s_X13_fail)
def s_X13_counterC_0_f (nt : Nat) (toldF : Nat → Int32) (placeF : Nat → Int32) (placeWasF : Nat → Int32) (ni : Nat) (z : Int32) : Nat → Int32 := if z < 0 then placeF else if z ≤ 1 then if (s_X13_isIn ((nI ni).toInt64) 0 200) = 0 then placeF else if (nI ni) ≤ 0 then if z = 0 then (s_X13_counterC_231 nt placeF placeWasF placeF nt) else (s_X13_counterC_231 nt placeF placeWasF placeF nt) else if (toldF 2) ≤ 0 then if z = 0 then (s_X13_counterC_231 nt placeF placeWasF placeF nt) else (s_X13_counterC_231 nt placeF placeWasF placeF nt) else if z = 0 then (s_X13_counterC_231 nt placeF placeWasF placeF nt) else (s_X13_counterC_231 nt placeF placeWasF placeF nt) else placeF
def s_X13_counterC_1_f (nt : Nat) (toldF : Nat → Int32) (placeF : Nat → Int32) (placeWasF : Nat → Int32) (ni : Nat) (z : Int32) : Nat → Int32 := if z < 0 then placeWasF else if z ≤ 1 then if (s_X13_isIn ((nI ni).toInt64) 0 200) = 0 then placeWasF else if (nI ni) ≤ 0 then if z = 0 then (s_X13_counterC_41 placeF placeWasF nt) else (s_X13_counterC_41 placeF placeWasF nt) else if (toldF 2) ≤ 0 then if z = 0 then (s_X13_counterC_41 placeF placeWasF nt) else (s_X13_counterC_41 placeF placeWasF nt) else if z = 0 then (s_X13_counterC_41 placeF placeWasF nt) else (s_X13_counterC_41 placeF placeWasF nt) else placeWasF
def s_X13_counterC_2_1 (mv : Nat → Int32) (toldF : Nat → Int32) (ni : Nat) (z : Int32) : Nat → Int32 := if z < 0 then (upd (upd mv 2 0) 2 1) else if z ≤ 1 then if (s_X13_isIn ((nI ni).toInt64) 0 200) = 0 then (upd (upd mv 2 0) 2 2) else if (nI ni) ≤ 0 then if z = 0 then (upd mv 2 0) else (upd mv 2 0) else if (toldF 2) ≤ 0 then if z = 0 then (upd mv 2 0) else (upd mv 2 0) else if z = 0 then (upd mv 2 0) else (upd mv 2 0) else (upd (upd mv 2 0) 2 1)
set_option maxHeartbeats 4000000 in
set_option maxRecDepth 100000 in
theorem c_X13_counterC (l : Launch) (D : va_G) (cB cI cJ : ClassId) (ad : Nat → Nat) (n : Nat) (M : Nat → va_E) (hI : ipI ad n) (mb : Nat) (nt : Nat) (nc : Nat) (np : Nat) (nq : Nat) (mv : Nat → Int32) (toldF : Nat → Int32) (placeF : Nat → Int32) (placeWasF : Nat → Int32) (ni : Nat) (x : Int32) (z : Int32) (h_mb : mb < n) (h_mb_3 : mb + 3 < n) (h_mb_18 : mb + 18 < n) (h_mb_29 : mb + 29 < n) (m_mb : M mb = .inr (12, modF ad mb mv)) (m_mb_3 : M (mb + 3) = .inl (cI, 14, .inl toldF)) (m_mb_18 : M (mb + 18) = .inl (cI, 24, .inl placeF)) (m_mb_29 : M (mb + 29) = .inl (cI, 12, .inl placeWasF)) (k0 : toldF 0 = nI np) (hnp : np ≤ 4) (k1 : toldF 1 = nI nc) (hnc : nc ≤ 5) (k2 : toldF 2 = nI nt) (hnt : nt ≤ 12) (k3 : toldF 3 = nI nq) (hnq : nq ≤ 6) (hni : ni ≤ 200) (h0c : nc = 0) : cWi l D cB cI cJ ad n M yX13_counter wsX13_counter 1 25 [.ref (ad mb), .int x, .int (nI ni), .int z] (fun r M' => r = s_X13_counterC toldF ni z ∧ M' (mb + 18) = .inl (cI, 24, .inl (s_X13_counterC_0_f nt toldF placeF placeWasF ni z)) ∧ M' (mb + 29) = .inl (cI, 12, .inl (s_X13_counterC_1_f nt toldF placeF placeWasF ni z)) ∧ M' mb = .inr (12, modF ad mb (s_X13_counterC_2_1 mv toldF ni z)) ∧ ∀ q : Nat, q ≠ mb + 18 → q ≠ mb + 29 → q ≠ mb → M' q = M q) := by
  refine q_body (cc := cX13_counter) (maxL := 10) (ret := (some .int)) (by decide) rfl (Nat.le_of_ble_eq_true rfl) ?_
  intro p e s m args below meth c ls X hr hlocks hK hP hl
  obtain ⟨hx, hb, hml, hown, hts⟩ := id X
  have hS : va_S (ipA ad n) s.heap s.heap [] := va_S.rf
  have hl : lv_has ls 10 [(0, .ref (ad mb)), (1, .int x), (2, .int (nI ni)), (3, .int z)] := hl
  refine lv_aload_n hx hb dX13_counter_0 rfl (lv_at hl 0 rfl) ?_
  refine lv_iconst (v := 0) hx hb dX13_counter_1 (by decide) ?_
  refine q_put (fs := modF ad mb mv) (fs' := modF ad mb (upd mv 2 0)) X hK hI hP hS fX13_counter_173 fw_12_2 h_mb m_mb rfl rfl (Nat.le_of_ble_eq_true rfl) rfl dX13_counter_2 (fun H locs hP hS => ?_)
  refine lv_iload_n hx hb dX13_counter_5 rfl (lv_at hl 3 rfl) ?_
  refine lv_if_lt (tgt := 14) hx hb dX13_counter_6 (by decide) (fun c_6 => ?_) (fun c_6 => ?_)
  · skip
    refine lv_aload_n hx hb dX13_counter_14 rfl (lv_at hl 0 rfl) ?_
    refine lv_iconst (v := 1) hx hb dX13_counter_15 (by decide) ?_
    refine q_wrVi (As := [.int 1]) (rest := []) (c_X13_fail l D cB cI cJ ad n (va_up M mb (.inr (12, modF ad mb (upd mv 2 0)))) hI mb (upd mv 2 0) 1 h_mb (va_up_self M mb (.inr (12, modF ad mb (upd mv 2 0)))) ) X hK hP hS hl.1 rfl gX13_counter_X13_fail yd_X13_fail ⟨Nat.le_of_ble_eq_true rfl, Nat.le_of_ble_eq_true rfl⟩ h_mb (va_up_self M mb (.inr (12, modF ad mb (upd mv 2 0)))) (ci := 12) rfl rfl (Nat.le_of_ble_eq_true rfl) ⟨Nat.zero_le _, Nat.zero_le _⟩ dX13_counter_16 (fun r5 M4 H locs hp3 hP hS => ?_)
    obtain ⟨rfl, g6, fr7⟩ := hp3
    exact q_wzret X hr hlocks hP hS (rfl) ⟨(by rw [s_X13_counterC, if_pos c_6]), (by rw [s_X13_counterC_0_f, if_pos c_6]; exact ((fr7 (mb + 18) (by omega)).trans ((va_up_ne M (.inr (12, modF ad mb (upd mv 2 0))) (show mb + 18 ≠ mb by omega)).trans m_mb_18))), (by rw [s_X13_counterC_1_f, if_pos c_6]; exact ((fr7 (mb + 29) (by omega)).trans ((va_up_ne M (.inr (12, modF ad mb (upd mv 2 0))) (show mb + 29 ≠ mb by omega)).trans m_mb_29))), (by rw [s_X13_counterC_2_1, if_pos c_6]; exact g6), (fun q n0 n1 n2 => ((fr7 q n2).trans (va_up_ne _ _ n2)))⟩ dX13_counter_19
  · skip
    refine lv_iload_n hx hb dX13_counter_9 rfl (lv_at hl 3 rfl) ?_
    refine lv_iconst (v := 1) hx hb dX13_counter_10 (by decide) ?_
    refine lv_icmp_le (tgt := 20) hx hb dX13_counter_11 (by decide) (fun c_11 => ?_) (fun c_11 => ?_)
    · skip
      refine lv_iload_n hx hb dX13_counter_20 rfl (lv_at hl 2 rfl) ?_
      refine lv_i2l hx hb dX13_counter_21 rfl ?_
      refine lv_lconst (v := 0) hx hb dX13_counter_22 (by decide) ?_
      refine lv_ldc2 (v := 200) hx hb hown (hts _ (by decide +kernel)) dX13_counter_23 ?_
      refine q_rdS (As := [.long ((nI ni).toInt64), .long 0, .long 200]) (rest := []) (c_X13_isIn l D cB cI cJ ad n (va_up M mb (.inr (12, modF ad mb (upd mv 2 0)))) ((nI ni).toInt64) 0 200   ) X hK hP hS hl.1 rfl gX13_counter_X13_isIn yd_X13_isIn ⟨Nat.le_of_ble_eq_true rfl, Nat.le_of_ble_eq_true rfl⟩ rfl (Nat.le_of_ble_eq_true rfl) ⟨Nat.zero_le _, Nat.zero_le _⟩ dX13_counter_26 ?_
      refine lv_if_ne (tgt := 38) hx hb dX13_counter_29 (by decide) (fun c_29 => ?_) (fun c_29 => ?_)
      · skip
        refine lv_iconst (v := 0) hx hb dX13_counter_38 (by decide) ?_
        refine lv_istore (lv' := [(4, .int 0), (0, .ref (ad mb)), (1, .int x), (2, .int (nI ni)), (3, .int z)]) hx hb dX13_counter_39 hl (by decide) rfl (fun ls hl => ?_)
        have loop_41 : ∀ (fuel : Nat) (t41 : Nat) (y41_0 : Nat → Int32), nt - (t41) < fuel → t41 ≤ nt → y41_0 = (s_X13_counterC_41 placeF placeWasF t41) → ∀ (ML41 : Nat → va_E) (H : Heap) (locs : List Loc), ML41 (mb + 29) = .inl (cI, 12, .inl y41_0) → (∀ q : Nat, q ≠ mb + 29 → ML41 q = va_up M mb (.inr (12, modF ad mb (upd mv 2 0))) q) → va_P D vwCl (ip ad n ML41) H → va_S (ipA ad n) s.heap H locs → ∀ (ls : Array Slot), lv_has ls 10 [(4, .int (nI t41)), (0, .ref (ad mb)), (1, .int x), (2, .int (nI ni)), (3, .int z)] → W p l e (rmOf 1 25) s m args below meth c H locs 0 0 (MQ below (va_Qi (fun r M' => r = s_X13_counterC toldF ni z ∧ M' (mb + 18) = .inl (cI, 24, .inl (s_X13_counterC_0_f nt toldF placeF placeWasF ni z)) ∧ M' (mb + 29) = .inl (cI, 12, .inl (s_X13_counterC_1_f nt toldF placeF placeWasF ni z)) ∧ M' mb = .inr (12, modF ad mb (s_X13_counterC_2_1 mv toldF ni z)) ∧ ∀ q : Nat, q ≠ mb + 18 → q ≠ mb + 29 → q ≠ mb → M' q = M q) (fun M' t => va_P D vwCl (ip ad n M') t.heap) (ipA ad n)) args s 0 0 (ipA ad n)) (F0 m 41 ls []) := by
          intro fuel
          induction fuel with
          | zero =>
            intro t41 y41_0 hz
            exact absurd hz (Nat.not_lt_zero _)
          | succ fuel ih_41 =>
            intro t41 y41_0 hz_41 h_t41 e_y41_0 ML41 H locs mL41_0 fL41 hP hS ls hl
            skip
            refine lv_iload hx hb dX13_counter_41 (lv_at hl 0 rfl) ?_
            refine lv_aload_n hx hb dX13_counter_43 rfl (lv_at hl 1 rfl) ?_
            refine q_get (v := .ref (ad (mb + 3))) (fs := modF ad mb (upd mv 2 0)) X hK hP fX13_counter_40 h_mb ((fL41 mb (by omega)).trans (va_up_self M mb (.inr (12, modF ad mb (upd mv 2 0))))) rfl dX13_counter_44 ?_
            refine lv_iconst (v := 2) hx hb dX13_counter_47 (by decide) ?_
            refine q_ialdN (f := toldF) (k := 14) X hK hP 2 h_mb_3 ((fL41 (mb + 3) (by omega)).trans ((va_up_ne M (.inr (12, modF ad mb (upd mv 2 0))) (show mb + 3 ≠ mb by omega)).trans m_mb_3)) (by decide) (by decide) dX13_counter_48 ?_
            refine lv_icmp_ge (tgt := 72) hx hb dX13_counter_49 (by decide) (fun c_49 => ?_) (fun c_49 => ?_)
            · rw [k2] at c_49
              have h9_41 : t41 = nt := eq_of_le (t := t41) (k := nt) c_49 (by omega) h_t41
              subst t41
              subst e_y41_0
              refine lv_iload_n hx hb dX13_counter_72 rfl (lv_at hl 2 rfl) ?_
              refine lv_istore (lv' := [(4, .int x), (0, .ref (ad mb)), (1, .int x), (2, .int (nI ni)), (3, .int z)]) hx hb dX13_counter_73 hl (by decide) rfl (fun ls hl => ?_)
              refine lv_iconst (v := 0) hx hb dX13_counter_75 (by decide) ?_
              refine lv_istore (lv' := [(5, .int 0), (4, .int x), (0, .ref (ad mb)), (1, .int x), (2, .int (nI ni)), (3, .int z)]) hx hb dX13_counter_76 hl (by decide) rfl (fun ls hl => ?_)
              refine lv_iconst (v := 0) hx hb dX13_counter_78 (by decide) ?_
              refine lv_istore (lv' := [(6, .int 0), (5, .int 0), (4, .int x), (0, .ref (ad mb)), (1, .int x), (2, .int (nI ni)), (3, .int z)]) hx hb dX13_counter_79 hl (by decide) rfl (fun ls hl => ?_)
              refine lv_iconst (v := 0) hx hb dX13_counter_81 (by decide) ?_
              refine lv_istore (lv' := [(7, .int 0), (6, .int 0), (5, .int 0), (4, .int x), (0, .ref (ad mb)), (1, .int x), (2, .int (nI ni)), (3, .int z)]) hx hb dX13_counter_82 hl (by decide) rfl (fun ls hl => ?_)
              refine lv_iload hx hb dX13_counter_84 (lv_at hl 0 rfl) ?_
              refine lv_iload_n hx hb dX13_counter_86 rfl (lv_at hl 6 rfl) ?_
              refine lv_icmp_ge (tgt := 228) hx hb dX13_counter_87 (by decide) (fun c_87 => ?_) (fun c_87 => ?_)
              · skip
                refine lv_iconst (v := 0) hx hb dX13_counter_228 (by decide) ?_
                refine lv_istore (lv' := [(7, .int 0), (6, .int 0), (5, .int 0), (4, .int x), (0, .ref (ad mb)), (1, .int x), (2, .int (nI ni)), (3, .int z)]) hx hb dX13_counter_229 hl (by decide) rfl (fun ls hl => ?_)
                have loop_231 : ∀ (fuel : Nat) (t231 : Nat) (y231_0 : Nat → Int32), nt - (t231) < fuel → t231 ≤ nt → y231_0 = (s_X13_counterC_231 nt placeF placeWasF placeF t231) → ∀ (ML231 : Nat → va_E) (H : Heap) (locs : List Loc), ML231 (mb + 18) = .inl (cI, 24, .inl y231_0) → (∀ q : Nat, q ≠ mb + 18 → ML231 q = ML41 q) → va_P D vwCl (ip ad n ML231) H → va_S (ipA ad n) s.heap H locs → ∀ (ls : Array Slot), lv_has ls 10 [(7, .int (nI t231)), (6, .int 0), (5, .int 0), (4, .int x), (0, .ref (ad mb)), (1, .int x), (2, .int (nI ni)), (3, .int z)] → W p l e (rmOf 1 25) s m args below meth c H locs 0 0 (MQ below (va_Qi (fun r M' => r = s_X13_counterC toldF ni z ∧ M' (mb + 18) = .inl (cI, 24, .inl (s_X13_counterC_0_f nt toldF placeF placeWasF ni z)) ∧ M' (mb + 29) = .inl (cI, 12, .inl (s_X13_counterC_1_f nt toldF placeF placeWasF ni z)) ∧ M' mb = .inr (12, modF ad mb (s_X13_counterC_2_1 mv toldF ni z)) ∧ ∀ q : Nat, q ≠ mb + 18 → q ≠ mb + 29 → q ≠ mb → M' q = M q) (fun M' t => va_P D vwCl (ip ad n M') t.heap) (ipA ad n)) args s 0 0 (ipA ad n)) (F0 m 231 ls []) := by
                  intro fuel
                  induction fuel with
                  | zero =>
                    intro t231 y231_0 hz
                    exact absurd hz (Nat.not_lt_zero _)
                  | succ fuel ih_231 =>
                    intro t231 y231_0 hz_231 h_t231 e_y231_0 ML231 H locs mL231_0 fL231 hP hS ls hl
                    skip
                    refine lv_iload hx hb dX13_counter_231 (lv_at hl 0 rfl) ?_
                    refine lv_aload_n hx hb dX13_counter_233 rfl (lv_at hl 4 rfl) ?_
                    refine q_get (v := .ref (ad (mb + 3))) (fs := modF ad mb (upd mv 2 0)) X hK hP fX13_counter_40 h_mb ((fL231 mb (by omega)).trans ((fL41 mb (by omega)).trans (va_up_self M mb (.inr (12, modF ad mb (upd mv 2 0)))))) rfl dX13_counter_234 ?_
                    refine lv_iconst (v := 2) hx hb dX13_counter_237 (by decide) ?_
                    refine q_ialdN (f := toldF) (k := 14) X hK hP 2 h_mb_3 ((fL231 (mb + 3) (by omega)).trans ((fL41 (mb + 3) (by omega)).trans ((va_up_ne M (.inr (12, modF ad mb (upd mv 2 0))) (show mb + 3 ≠ mb by omega)).trans m_mb_3))) (by decide) (by decide) dX13_counter_238 ?_
                    refine lv_icmp_ge (tgt := 262) hx hb dX13_counter_239 (by decide) (fun c_239 => ?_) (fun c_239 => ?_)
                    · rw [k2] at c_239
                      have h9_231 : t231 = nt := eq_of_le (t := t231) (k := nt) c_239 (by omega) h_t231
                      subst t231
                      subst e_y231_0
                      refine lv_iload_n hx hb dX13_counter_262 rfl (lv_at hl 7 rfl) ?_
                      refine lv_if_ne (tgt := 271) hx hb dX13_counter_263 (by decide) (fun c_263 => ?_) (fun c_263 => ?_)
                      · skip
                        refine lv_iload hx hb dX13_counter_271 (lv_at hl 1 rfl) ?_
                        exact q_wzret X hr hlocks hP hS (rfl) ⟨(by rw [s_X13_counterC, if_neg c_6, if_pos c_11, if_neg c_29, if_pos c_87, if_neg c_263]), (by rw [s_X13_counterC_0_f, if_neg c_6, if_pos c_11, if_neg c_29, if_pos c_87, if_neg c_263]; exact mL231_0), (by rw [s_X13_counterC_1_f, if_neg c_6, if_pos c_11, if_neg c_29, if_pos c_87, if_neg c_263]; exact ((fL231 (mb + 29) (by omega)).trans mL41_0)), (by rw [s_X13_counterC_2_1, if_neg c_6, if_pos c_11, if_neg c_29, if_pos c_87, if_neg c_263]; exact ((fL231 mb (by omega)).trans ((fL41 mb (by omega)).trans (va_up_self M mb (.inr (12, modF ad mb (upd mv 2 0))))))), (fun q n0 n1 n2 => ((fL231 q n0).trans ((fL41 q n1).trans (va_up_ne _ _ n2))))⟩ dX13_counter_273
                      · skip
                        refine lv_iload hx hb dX13_counter_266 (lv_at hl 2 rfl) ?_
                        refine lv_goto (tgt := 273) hx hb dX13_counter_268 (by decide) ?_
                        exact q_wzret X hr hlocks hP hS (rfl) ⟨(by rw [s_X13_counterC, if_neg c_6, if_pos c_11, if_neg c_29, if_pos c_87, if_pos c_263]), (by rw [s_X13_counterC_0_f, if_neg c_6, if_pos c_11, if_neg c_29, if_pos c_87, if_pos c_263]; exact mL231_0), (by rw [s_X13_counterC_1_f, if_neg c_6, if_pos c_11, if_neg c_29, if_pos c_87, if_pos c_263]; exact ((fL231 (mb + 29) (by omega)).trans mL41_0)), (by rw [s_X13_counterC_2_1, if_neg c_6, if_pos c_11, if_neg c_29, if_pos c_87, if_pos c_263]; exact ((fL231 mb (by omega)).trans ((fL41 mb (by omega)).trans (va_up_self M mb (.inr (12, modF ad mb (upd mv 2 0))))))), (fun q n0 n1 n2 => ((fL231 q n0).trans ((fL41 q n1).trans (va_up_ne _ _ n2))))⟩ dX13_counter_273
                    · rw [k2] at c_239
                      have h9_231 : t231 < nt := lt_of_nlt (t := t231) (k := nt) c_239 (by omega) h_t231
                      refine lv_aload_n hx hb dX13_counter_242 rfl (lv_at hl 4 rfl) ?_
                      refine q_get (v := .ref (ad (mb + 18))) (fs := modF ad mb (upd mv 2 0)) X hK hP fX13_counter_84 h_mb ((fL231 mb (by omega)).trans ((fL41 mb (by omega)).trans (va_up_self M mb (.inr (12, modF ad mb (upd mv 2 0)))))) rfl dX13_counter_243 ?_
                      refine lv_iload hx hb dX13_counter_246 (lv_at hl 0 rfl) ?_
                      refine lv_aload_n hx hb dX13_counter_248 rfl (lv_at hl 4 rfl) ?_
                      refine q_get (v := .ref (ad (mb + 29))) (fs := modF ad mb (upd mv 2 0)) X hK hP fX13_counter_121 h_mb ((fL231 mb (by omega)).trans ((fL41 mb (by omega)).trans (va_up_self M mb (.inr (12, modF ad mb (upd mv 2 0)))))) rfl dX13_counter_249 ?_
                      refine lv_iload hx hb dX13_counter_252 (lv_at hl 0 rfl) ?_
                      refine q_ialdN (f := (s_X13_counterC_41 placeF placeWasF nt)) (k := 12) X hK hP t231 h_mb_29 ((fL231 (mb + 29) (by omega)).trans mL41_0) (by omega) (by decide) dX13_counter_254 ?_
                      refine q_iastN (f := y231_0) (k := 24) X hK hI hP hS t231 h_mb_18 mL231_0 (by omega) (by decide) dX13_counter_255 (fun H locs hP hS => ?_)
                      refine lv_iinc (v := ((nI t231) + 1)) (lv' := [(7, .int ((nI t231) + 1)), (6, .int 0), (5, .int 0), (4, .int x), (0, .ref (ad mb)), (1, .int x), (2, .int (nI ni)), (3, .int z)]) hx hb dX13_counter_256 hl (k := 0) rfl rfl (by decide) rfl (fun ls hl => ?_)
                      refine lv_goto (tgt := 231) hx hb dX13_counter_259 (by decide) ?_
                      exact ih_231 (t231 + 1) (upd y231_0 t231 ((s_X13_counterC_41 placeF placeWasF nt) t231)) (by omega) (by omega) (by rw [s_X13_counterC_231, ← e_y231_0, s_X13_counterC_231s]) _ _ _ (va_up_self ML231 (mb + 18) (.inl (cI, 24, .inl (upd y231_0 t231 ((s_X13_counterC_41 placeF placeWasF nt) t231))))) (fun q n0 => ((va_up_ne _ _ n0).trans (fL231 q n0))) hP hS ls (by rw [(show nI (t231 + 1) = nI t231 + 1 by exact nI_succ _)]; exact lv_sub hl [0, 1, 2, 3, 4, 5, 6, 7] rfl)
                exact loop_231 (nt + 1) 0 placeF (by omega) (by omega) (by rfl) _ _ _ ((fL41 (mb + 18) (by omega)).trans ((va_up_ne M (.inr (12, modF ad mb (upd mv 2 0))) (show mb + 18 ≠ mb by omega)).trans m_mb_18)) (fun q n0 => rfl) hP hS ls (lv_sub hl [0, 1, 2, 3, 4, 5, 6, 7] rfl)
              · skip
                refine lv_aload_n hx hb dX13_counter_90 rfl (lv_at hl 4 rfl) ?_
                refine q_get (v := .ref (ad (mb + 3))) (fs := modF ad mb (upd mv 2 0)) X hK hP fX13_counter_40 h_mb ((fL41 mb (by omega)).trans (va_up_self M mb (.inr (12, modF ad mb (upd mv 2 0))))) rfl dX13_counter_91 ?_
                refine lv_iconst (v := 2) hx hb dX13_counter_94 (by decide) ?_
                refine q_ialdN (f := toldF) (k := 14) X hK hP 2 h_mb_3 ((fL41 (mb + 3) (by omega)).trans ((va_up_ne M (.inr (12, modF ad mb (upd mv 2 0))) (show mb + 3 ≠ mb by omega)).trans m_mb_3)) (by decide) (by decide) dX13_counter_95 ?_
                refine lv_if_le (tgt := 228) hx hb dX13_counter_96 (by decide) (fun c_96 => ?_) (fun c_96 => ?_)
                · skip
                  refine lv_iconst (v := 0) hx hb dX13_counter_228 (by decide) ?_
                  refine lv_istore (lv' := [(7, .int 0), (6, .int 0), (5, .int 0), (4, .int x), (0, .ref (ad mb)), (1, .int x), (2, .int (nI ni)), (3, .int z)]) hx hb dX13_counter_229 hl (by decide) rfl (fun ls hl => ?_)
                  have loop_231 : ∀ (fuel : Nat) (t231 : Nat) (y231_0 : Nat → Int32), nt - (t231) < fuel → t231 ≤ nt → y231_0 = (s_X13_counterC_231 nt placeF placeWasF placeF t231) → ∀ (ML231 : Nat → va_E) (H : Heap) (locs : List Loc), ML231 (mb + 18) = .inl (cI, 24, .inl y231_0) → (∀ q : Nat, q ≠ mb + 18 → ML231 q = ML41 q) → va_P D vwCl (ip ad n ML231) H → va_S (ipA ad n) s.heap H locs → ∀ (ls : Array Slot), lv_has ls 10 [(7, .int (nI t231)), (6, .int 0), (5, .int 0), (4, .int x), (0, .ref (ad mb)), (1, .int x), (2, .int (nI ni)), (3, .int z)] → W p l e (rmOf 1 25) s m args below meth c H locs 0 0 (MQ below (va_Qi (fun r M' => r = s_X13_counterC toldF ni z ∧ M' (mb + 18) = .inl (cI, 24, .inl (s_X13_counterC_0_f nt toldF placeF placeWasF ni z)) ∧ M' (mb + 29) = .inl (cI, 12, .inl (s_X13_counterC_1_f nt toldF placeF placeWasF ni z)) ∧ M' mb = .inr (12, modF ad mb (s_X13_counterC_2_1 mv toldF ni z)) ∧ ∀ q : Nat, q ≠ mb + 18 → q ≠ mb + 29 → q ≠ mb → M' q = M q) (fun M' t => va_P D vwCl (ip ad n M') t.heap) (ipA ad n)) args s 0 0 (ipA ad n)) (F0 m 231 ls []) := by
                    intro fuel
                    induction fuel with
                    | zero =>
                      intro t231 y231_0 hz
                      exact absurd hz (Nat.not_lt_zero _)
                    | succ fuel ih_231 =>
                      intro t231 y231_0 hz_231 h_t231 e_y231_0 ML231 H locs mL231_0 fL231 hP hS ls hl
                      skip
                      refine lv_iload hx hb dX13_counter_231 (lv_at hl 0 rfl) ?_
                      refine lv_aload_n hx hb dX13_counter_233 rfl (lv_at hl 4 rfl) ?_
                      refine q_get (v := .ref (ad (mb + 3))) (fs := modF ad mb (upd mv 2 0)) X hK hP fX13_counter_40 h_mb ((fL231 mb (by omega)).trans ((fL41 mb (by omega)).trans (va_up_self M mb (.inr (12, modF ad mb (upd mv 2 0)))))) rfl dX13_counter_234 ?_
                      refine lv_iconst (v := 2) hx hb dX13_counter_237 (by decide) ?_
                      refine q_ialdN (f := toldF) (k := 14) X hK hP 2 h_mb_3 ((fL231 (mb + 3) (by omega)).trans ((fL41 (mb + 3) (by omega)).trans ((va_up_ne M (.inr (12, modF ad mb (upd mv 2 0))) (show mb + 3 ≠ mb by omega)).trans m_mb_3))) (by decide) (by decide) dX13_counter_238 ?_
                      refine lv_icmp_ge (tgt := 262) hx hb dX13_counter_239 (by decide) (fun c_239 => ?_) (fun c_239 => ?_)
                      · rw [k2] at c_239
                        have h9_231 : t231 = nt := eq_of_le (t := t231) (k := nt) c_239 (by omega) h_t231
                        subst t231
                        subst e_y231_0
                        refine lv_iload_n hx hb dX13_counter_262 rfl (lv_at hl 7 rfl) ?_
                        refine lv_if_ne (tgt := 271) hx hb dX13_counter_263 (by decide) (fun c_263 => ?_) (fun c_263 => ?_)
                        · skip
                          refine lv_iload hx hb dX13_counter_271 (lv_at hl 1 rfl) ?_
                          exact q_wzret X hr hlocks hP hS (rfl) ⟨(by rw [s_X13_counterC, if_neg c_6, if_pos c_11, if_neg c_29, if_neg c_87, if_pos c_96, if_neg c_263]), (by rw [s_X13_counterC_0_f, if_neg c_6, if_pos c_11, if_neg c_29, if_neg c_87, if_pos c_96, if_neg c_263]; exact mL231_0), (by rw [s_X13_counterC_1_f, if_neg c_6, if_pos c_11, if_neg c_29, if_neg c_87, if_pos c_96, if_neg c_263]; exact ((fL231 (mb + 29) (by omega)).trans mL41_0)), (by rw [s_X13_counterC_2_1, if_neg c_6, if_pos c_11, if_neg c_29, if_neg c_87, if_pos c_96, if_neg c_263]; exact ((fL231 mb (by omega)).trans ((fL41 mb (by omega)).trans (va_up_self M mb (.inr (12, modF ad mb (upd mv 2 0))))))), (fun q n0 n1 n2 => ((fL231 q n0).trans ((fL41 q n1).trans (va_up_ne _ _ n2))))⟩ dX13_counter_273
                        · skip
                          refine lv_iload hx hb dX13_counter_266 (lv_at hl 2 rfl) ?_
                          refine lv_goto (tgt := 273) hx hb dX13_counter_268 (by decide) ?_
                          exact q_wzret X hr hlocks hP hS (rfl) ⟨(by rw [s_X13_counterC, if_neg c_6, if_pos c_11, if_neg c_29, if_neg c_87, if_pos c_96, if_pos c_263]), (by rw [s_X13_counterC_0_f, if_neg c_6, if_pos c_11, if_neg c_29, if_neg c_87, if_pos c_96, if_pos c_263]; exact mL231_0), (by rw [s_X13_counterC_1_f, if_neg c_6, if_pos c_11, if_neg c_29, if_neg c_87, if_pos c_96, if_pos c_263]; exact ((fL231 (mb + 29) (by omega)).trans mL41_0)), (by rw [s_X13_counterC_2_1, if_neg c_6, if_pos c_11, if_neg c_29, if_neg c_87, if_pos c_96, if_pos c_263]; exact ((fL231 mb (by omega)).trans ((fL41 mb (by omega)).trans (va_up_self M mb (.inr (12, modF ad mb (upd mv 2 0))))))), (fun q n0 n1 n2 => ((fL231 q n0).trans ((fL41 q n1).trans (va_up_ne _ _ n2))))⟩ dX13_counter_273
                      · rw [k2] at c_239
                        have h9_231 : t231 < nt := lt_of_nlt (t := t231) (k := nt) c_239 (by omega) h_t231
                        refine lv_aload_n hx hb dX13_counter_242 rfl (lv_at hl 4 rfl) ?_
                        refine q_get (v := .ref (ad (mb + 18))) (fs := modF ad mb (upd mv 2 0)) X hK hP fX13_counter_84 h_mb ((fL231 mb (by omega)).trans ((fL41 mb (by omega)).trans (va_up_self M mb (.inr (12, modF ad mb (upd mv 2 0)))))) rfl dX13_counter_243 ?_
                        refine lv_iload hx hb dX13_counter_246 (lv_at hl 0 rfl) ?_
                        refine lv_aload_n hx hb dX13_counter_248 rfl (lv_at hl 4 rfl) ?_
                        refine q_get (v := .ref (ad (mb + 29))) (fs := modF ad mb (upd mv 2 0)) X hK hP fX13_counter_121 h_mb ((fL231 mb (by omega)).trans ((fL41 mb (by omega)).trans (va_up_self M mb (.inr (12, modF ad mb (upd mv 2 0)))))) rfl dX13_counter_249 ?_
                        refine lv_iload hx hb dX13_counter_252 (lv_at hl 0 rfl) ?_
                        refine q_ialdN (f := (s_X13_counterC_41 placeF placeWasF nt)) (k := 12) X hK hP t231 h_mb_29 ((fL231 (mb + 29) (by omega)).trans mL41_0) (by omega) (by decide) dX13_counter_254 ?_
                        refine q_iastN (f := y231_0) (k := 24) X hK hI hP hS t231 h_mb_18 mL231_0 (by omega) (by decide) dX13_counter_255 (fun H locs hP hS => ?_)
                        refine lv_iinc (v := ((nI t231) + 1)) (lv' := [(7, .int ((nI t231) + 1)), (6, .int 0), (5, .int 0), (4, .int x), (0, .ref (ad mb)), (1, .int x), (2, .int (nI ni)), (3, .int z)]) hx hb dX13_counter_256 hl (k := 0) rfl rfl (by decide) rfl (fun ls hl => ?_)
                        refine lv_goto (tgt := 231) hx hb dX13_counter_259 (by decide) ?_
                        exact ih_231 (t231 + 1) (upd y231_0 t231 ((s_X13_counterC_41 placeF placeWasF nt) t231)) (by omega) (by omega) (by rw [s_X13_counterC_231, ← e_y231_0, s_X13_counterC_231s]) _ _ _ (va_up_self ML231 (mb + 18) (.inl (cI, 24, .inl (upd y231_0 t231 ((s_X13_counterC_41 placeF placeWasF nt) t231))))) (fun q n0 => ((va_up_ne _ _ n0).trans (fL231 q n0))) hP hS ls (by rw [(show nI (t231 + 1) = nI t231 + 1 by exact nI_succ _)]; exact lv_sub hl [0, 1, 2, 3, 4, 5, 6, 7] rfl)
                  exact loop_231 (nt + 1) 0 placeF (by omega) (by omega) (by rfl) _ _ _ ((fL41 (mb + 18) (by omega)).trans ((va_up_ne M (.inr (12, modF ad mb (upd mv 2 0))) (show mb + 18 ≠ mb by omega)).trans m_mb_18)) (fun q n0 => rfl) hP hS ls (lv_sub hl [0, 1, 2, 3, 4, 5, 6, 7] rfl)
                · skip
                  refine lv_aload_n hx hb dX13_counter_99 rfl (lv_at hl 4 rfl) ?_
                  refine q_get (v := .ref (ad (mb + 3))) (fs := modF ad mb (upd mv 2 0)) X hK hP fX13_counter_40 h_mb ((fL41 mb (by omega)).trans (va_up_self M mb (.inr (12, modF ad mb (upd mv 2 0))))) rfl dX13_counter_100 ?_
                  refine lv_iconst (v := 1) hx hb dX13_counter_103 (by decide) ?_
                  refine q_ialdN (f := toldF) (k := 14) X hK hP 1 h_mb_3 ((fL41 (mb + 3) (by omega)).trans ((va_up_ne M (.inr (12, modF ad mb (upd mv 2 0))) (show mb + 3 ≠ mb by omega)).trans m_mb_3)) (by decide) (by decide) dX13_counter_104 ?_
                  refine lv_if_le (tgt := 228) hx hb dX13_counter_105 (by decide) (fun c_105 => ?_) (fun c_105 => ?_)
                  · skip
                    refine lv_iconst (v := 0) hx hb dX13_counter_228 (by decide) ?_
                    refine lv_istore (lv' := [(7, .int 0), (6, .int 0), (5, .int 0), (4, .int x), (0, .ref (ad mb)), (1, .int x), (2, .int (nI ni)), (3, .int z)]) hx hb dX13_counter_229 hl (by decide) rfl (fun ls hl => ?_)
                    have loop_231 : ∀ (fuel : Nat) (t231 : Nat) (y231_0 : Nat → Int32), nt - (t231) < fuel → t231 ≤ nt → y231_0 = (s_X13_counterC_231 nt placeF placeWasF placeF t231) → ∀ (ML231 : Nat → va_E) (H : Heap) (locs : List Loc), ML231 (mb + 18) = .inl (cI, 24, .inl y231_0) → (∀ q : Nat, q ≠ mb + 18 → ML231 q = ML41 q) → va_P D vwCl (ip ad n ML231) H → va_S (ipA ad n) s.heap H locs → ∀ (ls : Array Slot), lv_has ls 10 [(7, .int (nI t231)), (6, .int 0), (5, .int 0), (4, .int x), (0, .ref (ad mb)), (1, .int x), (2, .int (nI ni)), (3, .int z)] → W p l e (rmOf 1 25) s m args below meth c H locs 0 0 (MQ below (va_Qi (fun r M' => r = s_X13_counterC toldF ni z ∧ M' (mb + 18) = .inl (cI, 24, .inl (s_X13_counterC_0_f nt toldF placeF placeWasF ni z)) ∧ M' (mb + 29) = .inl (cI, 12, .inl (s_X13_counterC_1_f nt toldF placeF placeWasF ni z)) ∧ M' mb = .inr (12, modF ad mb (s_X13_counterC_2_1 mv toldF ni z)) ∧ ∀ q : Nat, q ≠ mb + 18 → q ≠ mb + 29 → q ≠ mb → M' q = M q) (fun M' t => va_P D vwCl (ip ad n M') t.heap) (ipA ad n)) args s 0 0 (ipA ad n)) (F0 m 231 ls []) := by
                      intro fuel
                      induction fuel with
                      | zero =>
                        intro t231 y231_0 hz
                        exact absurd hz (Nat.not_lt_zero _)
                      | succ fuel ih_231 =>
                        intro t231 y231_0 hz_231 h_t231 e_y231_0 ML231 H locs mL231_0 fL231 hP hS ls hl
                        skip
                        refine lv_iload hx hb dX13_counter_231 (lv_at hl 0 rfl) ?_
                        refine lv_aload_n hx hb dX13_counter_233 rfl (lv_at hl 4 rfl) ?_
                        refine q_get (v := .ref (ad (mb + 3))) (fs := modF ad mb (upd mv 2 0)) X hK hP fX13_counter_40 h_mb ((fL231 mb (by omega)).trans ((fL41 mb (by omega)).trans (va_up_self M mb (.inr (12, modF ad mb (upd mv 2 0)))))) rfl dX13_counter_234 ?_
                        refine lv_iconst (v := 2) hx hb dX13_counter_237 (by decide) ?_
                        refine q_ialdN (f := toldF) (k := 14) X hK hP 2 h_mb_3 ((fL231 (mb + 3) (by omega)).trans ((fL41 (mb + 3) (by omega)).trans ((va_up_ne M (.inr (12, modF ad mb (upd mv 2 0))) (show mb + 3 ≠ mb by omega)).trans m_mb_3))) (by decide) (by decide) dX13_counter_238 ?_
                        refine lv_icmp_ge (tgt := 262) hx hb dX13_counter_239 (by decide) (fun c_239 => ?_) (fun c_239 => ?_)
                        · rw [k2] at c_239
                          have h9_231 : t231 = nt := eq_of_le (t := t231) (k := nt) c_239 (by omega) h_t231
                          subst t231
                          subst e_y231_0
                          refine lv_iload_n hx hb dX13_counter_262 rfl (lv_at hl 7 rfl) ?_
                          refine lv_if_ne (tgt := 271) hx hb dX13_counter_263 (by decide) (fun c_263 => ?_) (fun c_263 => ?_)
                          · skip
                            refine lv_iload hx hb dX13_counter_271 (lv_at hl 1 rfl) ?_
                            exact q_wzret X hr hlocks hP hS (rfl) ⟨(by rw [s_X13_counterC, if_neg c_6, if_pos c_11, if_neg c_29, if_neg c_87, if_neg c_96, if_neg c_263]), (by rw [s_X13_counterC_0_f, if_neg c_6, if_pos c_11, if_neg c_29, if_neg c_87, if_neg c_96, if_neg c_263]; exact mL231_0), (by rw [s_X13_counterC_1_f, if_neg c_6, if_pos c_11, if_neg c_29, if_neg c_87, if_neg c_96, if_neg c_263]; exact ((fL231 (mb + 29) (by omega)).trans mL41_0)), (by rw [s_X13_counterC_2_1, if_neg c_6, if_pos c_11, if_neg c_29, if_neg c_87, if_neg c_96, if_neg c_263]; exact ((fL231 mb (by omega)).trans ((fL41 mb (by omega)).trans (va_up_self M mb (.inr (12, modF ad mb (upd mv 2 0))))))), (fun q n0 n1 n2 => ((fL231 q n0).trans ((fL41 q n1).trans (va_up_ne _ _ n2))))⟩ dX13_counter_273
                          · skip
                            refine lv_iload hx hb dX13_counter_266 (lv_at hl 2 rfl) ?_
                            refine lv_goto (tgt := 273) hx hb dX13_counter_268 (by decide) ?_
                            exact q_wzret X hr hlocks hP hS (rfl) ⟨(by rw [s_X13_counterC, if_neg c_6, if_pos c_11, if_neg c_29, if_neg c_87, if_neg c_96, if_pos c_263]), (by rw [s_X13_counterC_0_f, if_neg c_6, if_pos c_11, if_neg c_29, if_neg c_87, if_neg c_96, if_pos c_263]; exact mL231_0), (by rw [s_X13_counterC_1_f, if_neg c_6, if_pos c_11, if_neg c_29, if_neg c_87, if_neg c_96, if_pos c_263]; exact ((fL231 (mb + 29) (by omega)).trans mL41_0)), (by rw [s_X13_counterC_2_1, if_neg c_6, if_pos c_11, if_neg c_29, if_neg c_87, if_neg c_96, if_pos c_263]; exact ((fL231 mb (by omega)).trans ((fL41 mb (by omega)).trans (va_up_self M mb (.inr (12, modF ad mb (upd mv 2 0))))))), (fun q n0 n1 n2 => ((fL231 q n0).trans ((fL41 q n1).trans (va_up_ne _ _ n2))))⟩ dX13_counter_273
                        · rw [k2] at c_239
                          have h9_231 : t231 < nt := lt_of_nlt (t := t231) (k := nt) c_239 (by omega) h_t231
                          refine lv_aload_n hx hb dX13_counter_242 rfl (lv_at hl 4 rfl) ?_
                          refine q_get (v := .ref (ad (mb + 18))) (fs := modF ad mb (upd mv 2 0)) X hK hP fX13_counter_84 h_mb ((fL231 mb (by omega)).trans ((fL41 mb (by omega)).trans (va_up_self M mb (.inr (12, modF ad mb (upd mv 2 0)))))) rfl dX13_counter_243 ?_
                          refine lv_iload hx hb dX13_counter_246 (lv_at hl 0 rfl) ?_
                          refine lv_aload_n hx hb dX13_counter_248 rfl (lv_at hl 4 rfl) ?_
                          refine q_get (v := .ref (ad (mb + 29))) (fs := modF ad mb (upd mv 2 0)) X hK hP fX13_counter_121 h_mb ((fL231 mb (by omega)).trans ((fL41 mb (by omega)).trans (va_up_self M mb (.inr (12, modF ad mb (upd mv 2 0)))))) rfl dX13_counter_249 ?_
                          refine lv_iload hx hb dX13_counter_252 (lv_at hl 0 rfl) ?_
                          refine q_ialdN (f := (s_X13_counterC_41 placeF placeWasF nt)) (k := 12) X hK hP t231 h_mb_29 ((fL231 (mb + 29) (by omega)).trans mL41_0) (by omega) (by decide) dX13_counter_254 ?_
                          refine q_iastN (f := y231_0) (k := 24) X hK hI hP hS t231 h_mb_18 mL231_0 (by omega) (by decide) dX13_counter_255 (fun H locs hP hS => ?_)
                          refine lv_iinc (v := ((nI t231) + 1)) (lv' := [(7, .int ((nI t231) + 1)), (6, .int 0), (5, .int 0), (4, .int x), (0, .ref (ad mb)), (1, .int x), (2, .int (nI ni)), (3, .int z)]) hx hb dX13_counter_256 hl (k := 0) rfl rfl (by decide) rfl (fun ls hl => ?_)
                          refine lv_goto (tgt := 231) hx hb dX13_counter_259 (by decide) ?_
                          exact ih_231 (t231 + 1) (upd y231_0 t231 ((s_X13_counterC_41 placeF placeWasF nt) t231)) (by omega) (by omega) (by rw [s_X13_counterC_231, ← e_y231_0, s_X13_counterC_231s]) _ _ _ (va_up_self ML231 (mb + 18) (.inl (cI, 24, .inl (upd y231_0 t231 ((s_X13_counterC_41 placeF placeWasF nt) t231))))) (fun q n0 => ((va_up_ne _ _ n0).trans (fL231 q n0))) hP hS ls (by rw [(show nI (t231 + 1) = nI t231 + 1 by exact nI_succ _)]; exact lv_sub hl [0, 1, 2, 3, 4, 5, 6, 7] rfl)
                    exact loop_231 (nt + 1) 0 placeF (by omega) (by omega) (by rfl) _ _ _ ((fL41 (mb + 18) (by omega)).trans ((va_up_ne M (.inr (12, modF ad mb (upd mv 2 0))) (show mb + 18 ≠ mb by omega)).trans m_mb_18)) (fun q n0 => rfl) hP hS ls (lv_sub hl [0, 1, 2, 3, 4, 5, 6, 7] rfl)
                  · exact absurd (by rw [k1, h0c]; decide) c_105
            · rw [k2] at c_49
              have h9_41 : t41 < nt := lt_of_nlt (t := t41) (k := nt) c_49 (by omega) h_t41
              refine lv_aload_n hx hb dX13_counter_52 rfl (lv_at hl 1 rfl) ?_
              refine q_get (v := .ref (ad (mb + 29))) (fs := modF ad mb (upd mv 2 0)) X hK hP fX13_counter_121 h_mb ((fL41 mb (by omega)).trans (va_up_self M mb (.inr (12, modF ad mb (upd mv 2 0))))) rfl dX13_counter_53 ?_
              refine lv_iload hx hb dX13_counter_56 (lv_at hl 0 rfl) ?_
              refine lv_aload_n hx hb dX13_counter_58 rfl (lv_at hl 1 rfl) ?_
              refine q_get (v := .ref (ad (mb + 18))) (fs := modF ad mb (upd mv 2 0)) X hK hP fX13_counter_84 h_mb ((fL41 mb (by omega)).trans (va_up_self M mb (.inr (12, modF ad mb (upd mv 2 0))))) rfl dX13_counter_59 ?_
              refine lv_iload hx hb dX13_counter_62 (lv_at hl 0 rfl) ?_
              refine q_ialdN (f := placeF) (k := 24) X hK hP t41 h_mb_18 ((fL41 (mb + 18) (by omega)).trans ((va_up_ne M (.inr (12, modF ad mb (upd mv 2 0))) (show mb + 18 ≠ mb by omega)).trans m_mb_18)) (by omega) (by decide) dX13_counter_64 ?_
              refine q_iastN (f := y41_0) (k := 12) X hK hI hP hS t41 h_mb_29 mL41_0 (by omega) (by decide) dX13_counter_65 (fun H locs hP hS => ?_)
              refine lv_iinc (v := ((nI t41) + 1)) (lv' := [(4, .int ((nI t41) + 1)), (0, .ref (ad mb)), (1, .int x), (2, .int (nI ni)), (3, .int z)]) hx hb dX13_counter_66 hl (k := 0) rfl rfl (by decide) rfl (fun ls hl => ?_)
              refine lv_goto (tgt := 41) hx hb dX13_counter_69 (by decide) ?_
              exact ih_41 (t41 + 1) (upd y41_0 t41 (placeF t41)) (by omega) (by omega) (by rw [s_X13_counterC_41, ← e_y41_0, s_X13_counterC_41s]) _ _ _ (va_up_self ML41 (mb + 29) (.inl (cI, 12, .inl (upd y41_0 t41 (placeF t41))))) (fun q n0 => ((va_up_ne _ _ n0).trans (fL41 q n0))) hP hS ls (by rw [(show nI (t41 + 1) = nI t41 + 1 by exact nI_succ _)]; exact lv_sub hl [0, 1, 2, 3, 4] rfl)
        exact loop_41 (nt + 1) 0 placeWasF (by omega) (by omega) (by rfl) _ _ _ ((va_up_ne M (.inr (12, modF ad mb (upd mv 2 0))) (show mb + 29 ≠ mb by omega)).trans m_mb_29) (fun q n0 => rfl) hP hS ls (lv_sub hl [0, 1, 2, 3, 4] rfl)
      · skip
        refine lv_aload_n hx hb dX13_counter_32 rfl (lv_at hl 0 rfl) ?_
        refine lv_iconst (v := 2) hx hb dX13_counter_33 (by decide) ?_
        refine q_wrVi (As := [.int 2]) (rest := []) (c_X13_fail l D cB cI cJ ad n (va_up M mb (.inr (12, modF ad mb (upd mv 2 0)))) hI mb (upd mv 2 0) 2 h_mb (va_up_self M mb (.inr (12, modF ad mb (upd mv 2 0)))) ) X hK hP hS hl.1 rfl gX13_counter_X13_fail yd_X13_fail ⟨Nat.le_of_ble_eq_true rfl, Nat.le_of_ble_eq_true rfl⟩ h_mb (va_up_self M mb (.inr (12, modF ad mb (upd mv 2 0)))) (ci := 12) rfl rfl (Nat.le_of_ble_eq_true rfl) ⟨Nat.zero_le _, Nat.zero_le _⟩ dX13_counter_34 (fun r18 M17 H locs hp16 hP hS => ?_)
        obtain ⟨rfl, g19, fr20⟩ := hp16
        exact q_wzret X hr hlocks hP hS (rfl) ⟨(by rw [s_X13_counterC, if_neg c_6, if_pos c_11, if_pos c_29]), (by rw [s_X13_counterC_0_f, if_neg c_6, if_pos c_11, if_pos c_29]; exact ((fr20 (mb + 18) (by omega)).trans ((va_up_ne M (.inr (12, modF ad mb (upd mv 2 0))) (show mb + 18 ≠ mb by omega)).trans m_mb_18))), (by rw [s_X13_counterC_1_f, if_neg c_6, if_pos c_11, if_pos c_29]; exact ((fr20 (mb + 29) (by omega)).trans ((va_up_ne M (.inr (12, modF ad mb (upd mv 2 0))) (show mb + 29 ≠ mb by omega)).trans m_mb_29))), (by rw [s_X13_counterC_2_1, if_neg c_6, if_pos c_11, if_pos c_29]; exact g19), (fun q n0 n1 n2 => ((fr20 q n2).trans (va_up_ne _ _ n2)))⟩ dX13_counter_37
    · skip
      refine lv_aload_n hx hb dX13_counter_14 rfl (lv_at hl 0 rfl) ?_
      refine lv_iconst (v := 1) hx hb dX13_counter_15 (by decide) ?_
      refine q_wrVi (As := [.int 1]) (rest := []) (c_X13_fail l D cB cI cJ ad n (va_up M mb (.inr (12, modF ad mb (upd mv 2 0)))) hI mb (upd mv 2 0) 1 h_mb (va_up_self M mb (.inr (12, modF ad mb (upd mv 2 0)))) ) X hK hP hS hl.1 rfl gX13_counter_X13_fail yd_X13_fail ⟨Nat.le_of_ble_eq_true rfl, Nat.le_of_ble_eq_true rfl⟩ h_mb (va_up_self M mb (.inr (12, modF ad mb (upd mv 2 0)))) (ci := 12) rfl rfl (Nat.le_of_ble_eq_true rfl) ⟨Nat.zero_le _, Nat.zero_le _⟩ dX13_counter_16 (fun r23 M22 H locs hp21 hP hS => ?_)
      obtain ⟨rfl, g24, fr25⟩ := hp21
      exact q_wzret X hr hlocks hP hS (rfl) ⟨(by rw [s_X13_counterC, if_neg c_6, if_neg c_11]), (by rw [s_X13_counterC_0_f, if_neg c_6, if_neg c_11]; exact ((fr25 (mb + 18) (by omega)).trans ((va_up_ne M (.inr (12, modF ad mb (upd mv 2 0))) (show mb + 18 ≠ mb by omega)).trans m_mb_18))), (by rw [s_X13_counterC_1_f, if_neg c_6, if_neg c_11]; exact ((fr25 (mb + 29) (by omega)).trans ((va_up_ne M (.inr (12, modF ad mb (upd mv 2 0))) (show mb + 29 ≠ mb by omega)).trans m_mb_29))), (by rw [s_X13_counterC_2_1, if_neg c_6, if_neg c_11]; exact g24), (fun q n0 n1 n2 => ((fr25 q n2).trans (va_up_ne _ _ n2)))⟩ dX13_counter_19
