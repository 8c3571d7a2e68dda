/-! PoundsOver$Plans -/
theorem ne_of_pos {x : Int32} (h : ¬ x ≤ 0) : ¬ x = 0 := fun e => h (by rw [e]; decide)
set_option maxRecDepth 20000 in
theorem fX3_begin_35 : FL wsX3_begin RX3 35 3 2 := ⟨RX3, TX3, 9, rfl, by decide +kernel, by decide, by decide +kernel⟩
theorem fw_3_2 : FW 3 2 .boolean := ⟨RX3, TX3, 9, tyX3, rfl, tyX3_ok, nmX3, by decide, rfl, by decide +kernel⟩
set_option maxRecDepth 20000 in
theorem fX3_begin_39 : FL wsX3_begin RX3 39 3 6 := ⟨RX3, TX3, 9, rfl, by decide +kernel, by decide, by decide +kernel⟩
theorem fw_3_6 : FW 3 6 .boolean := ⟨RX3, TX3, 9, tyX3, rfl, tyX3_ok, nmX3, by decide, rfl, by decide +kernel⟩
set_option maxHeartbeats 4000000 in
set_option maxRecDepth 100000 in
theorem c_X3_begin (l : Launch) (D : va_G) (cB cI cJ : ClassId) (ad : Nat → Nat) (n : Nat) (M : Nat → va_E) (hI : ipI ad n) (an : Nat) (tof fk ck : Int32) (h_an : an < n) (m_an : M an = .inr (3, plansF ad an tof fk ck))  : cWv l D cB cI cJ ad n M yX3_begin wsX3_begin 0 0 [.ref (ad an)] (fun M' => M' an = .inr (3, plansF ad an tof 0 0) ∧ ∀ q : Nat, q ≠ an → M' q = M q) := by
  refine q_body (cc := cX3_begin) (maxL := 1) (ret := none) (by decide) rfl (Nat.le_of_ble_eq_true rfl) ?_
  intro p e s m args below meth c ls X hr hlocks hK hP hl
  obtain ⟨hx, hb, hml, hown, hts⟩ := id X
  have hS : va_S (ipA ad n) s.heap s.heap [] := va_S.rf
  have hl : lv_has ls 1 [(0, .ref (ad an))] := hl
  refine lv_aload_n hx hb dX3_begin_0 rfl (lv_at hl 0 rfl) ?_
  refine lv_iconst (v := 0) hx hb dX3_begin_1 (by decide) ?_
  refine q_put (fs := plansF ad an tof fk ck) (fs' := plansF ad an tof 0 ck) X hK hI hP hS fX3_begin_35 fw_3_2 h_an m_an rfl rfl (Nat.le_of_ble_eq_true rfl) rfl dX3_begin_2 (fun H locs hP hS => ?_)
  refine lv_aload_n hx hb dX3_begin_5 rfl (lv_at hl 0 rfl) ?_
  refine lv_iconst (v := 0) hx hb dX3_begin_6 (by decide) ?_
  refine q_put (fs := plansF ad an tof 0 ck) (fs' := plansF ad an tof 0 0) X hK hI hP hS fX3_begin_39 fw_3_6 h_an (va_up_self M an (.inr (3, plansF ad an tof 0 ck))) rfl rfl (Nat.le_of_ble_eq_true rfl) rfl dX3_begin_7 (fun H locs hP hS => ?_)
  exact q_wvret X hr hlocks hP hS ⟨(va_up_self (va_up M an (.inr (3, plansF ad an tof 0 ck))) an (.inr (3, plansF ad an tof 0 0))), (fun q n0 => ((va_up_ne _ _ n0).trans (va_up_ne _ _ n0)))⟩ dX3_begin_10
set_option maxRecDepth 20000 in
theorem fX3_hasFateOf_35 : FL wsX3_hasFateOf RX3 35 3 2 := ⟨RX3, TX3, 9, rfl, by decide +kernel, by decide, by decide +kernel⟩
set_option maxRecDepth 20000 in
theorem fX3_hasFateOf_42 : FL wsX3_hasFateOf RX3 42 3 1 := ⟨RX3, TX3, 9, rfl, by decide +kernel, by decide, by decide +kernel⟩
def s_X3_hasFateOf (tof : Int32) (fk : Int32) (x : Int32) : Int32 := if fk = 0 then 0 else if ((tof >>> (x &&& 31)) &&& 1) = 0 then 0 else 1
set_option maxHeartbeats 4000000 in
set_option maxRecDepth 100000 in
theorem c_X3_hasFateOf (l : Launch) (D : va_G) (cB cI cJ : ClassId) (ad : Nat → Nat) (n : Nat) (M : Nat → va_E) (an : Nat) (tof fk ck : Int32) (x : Int32) (h_an : an < n) (m_an : M an = .inr (3, plansF ad an tof fk ck))  : cR l D cB cI cJ ad n M yX3_hasFateOf wsX3_hasFateOf 0 0 [.ref (ad an), .int x] (s_X3_hasFateOf tof fk x) := by
  refine q_body (cc := cX3_hasFateOf) (maxL := 2) (ret := (some .boolean)) (by decide) rfl (Nat.le_of_ble_eq_true rfl) ?_
  intro p e s m args below meth c ls X hr hlocks hK hP hl
  obtain ⟨hx, hb, hml, hown, hts⟩ := id X
  have hS : va_S (ipA ad n) s.heap s.heap [] := va_S.rf
  have hl : lv_has ls 2 [(0, .ref (ad an)), (1, .int x)] := hl
  refine lv_aload_n hx hb dX3_hasFateOf_0 rfl (lv_at hl 0 rfl) ?_
  refine q_get (v := .int fk) (fs := plansF ad an tof fk ck) X hK hP fX3_hasFateOf_35 h_an m_an rfl dX3_hasFateOf_1 ?_
  refine lv_if_eq (tgt := 22) hx hb dX3_hasFateOf_4 (by decide) (fun c_4 => ?_) (fun c_4 => ?_)
  · skip
    refine lv_iconst (v := 0) hx hb dX3_hasFateOf_22 (by decide) ?_
    exact q_zret X hr hlocks (rfl) (by rw [s_X3_hasFateOf, if_pos c_4]) dX3_hasFateOf_23
  · skip
    refine lv_aload_n hx hb dX3_hasFateOf_7 rfl (lv_at hl 0 rfl) ?_
    refine q_get (v := .int tof) (fs := plansF ad an tof fk ck) X hK hP fX3_hasFateOf_42 h_an m_an rfl dX3_hasFateOf_8 ?_
    refine lv_iload_n hx hb dX3_hasFateOf_11 rfl (lv_at hl 1 rfl) ?_
    refine lv_ishr hx hb dX3_hasFateOf_12 ?_
    refine lv_iconst (v := 1) hx hb dX3_hasFateOf_13 (by decide) ?_
    refine lv_iand hx hb dX3_hasFateOf_14 ?_
    refine lv_if_eq (tgt := 22) hx hb dX3_hasFateOf_15 (by decide) (fun c_15 => ?_) (fun c_15 => ?_)
    · skip
      refine lv_iconst (v := 0) hx hb dX3_hasFateOf_22 (by decide) ?_
      exact q_zret X hr hlocks (rfl) (by rw [s_X3_hasFateOf, if_neg c_4, if_pos c_15]) dX3_hasFateOf_23
    · skip
      refine lv_iconst (v := 1) hx hb dX3_hasFateOf_18 (by decide) ?_
      refine lv_goto (tgt := 23) hx hb dX3_hasFateOf_19 (by decide) ?_
      exact q_zret X hr hlocks (rfl) (by rw [s_X3_hasFateOf, if_neg c_4, if_neg c_15]) dX3_hasFateOf_23
set_option maxRecDepth 20000 in
theorem fX3_findLosses_77 : FL wsX3_findLosses RX3 77 0 7 := ⟨RX0, TX0, 12, rfl, by decide +kernel, by decide, by decide +kernel⟩
set_option maxRecDepth 20000 in
theorem fX3_findLosses_82 : FL wsX3_findLosses RX3 82 0 2 := ⟨RX0, TX0, 12, rfl, by decide +kernel, by decide, by decide +kernel⟩
set_option maxRecDepth 20000 in
theorem fX3_findLosses_20 : FL wsX3_findLosses RX3 20 3 3 := ⟨RX3, TX3, 9, rfl, by decide +kernel, by decide, by decide +kernel⟩
set_option maxRecDepth 20000 in
theorem fX3_findLosses_23 : FL wsX3_findLosses RX3 23 3 4 := ⟨RX3, TX3, 9, rfl, by decide +kernel, by decide, by decide +kernel⟩
def s_X3_findLosses_2s (nq : Nat) (tf : Nat → Int32) (qf : Nat → Int32) (t2 : Nat) (y2_0 : Nat → Int32) (y2_1 : Nat → Int32) : (Nat → Int32) × (Nat → Int32) := if (prS qf (tat 84 tf ((nI t2) * 7 + 1)) nq 0) = (-1) then (tset 12 y2_0 (nI t2) (tat 84 tf ((nI t2) * 7 + 4)), tset 12 y2_1 (nI t2) 1) else if (tat 84 tf ((nI t2) * 7 + 4)) ≤ (prS qf (tat 84 tf ((nI t2) * 7 + 1)) nq 0) then (tset 12 y2_0 (nI t2) (tat 84 tf ((nI t2) * 7 + 4)), tset 12 y2_1 (nI t2) 1) else (tset 12 y2_0 (nI t2) (prS qf (tat 84 tf ((nI t2) * 7 + 1)) nq 0), tset 12 y2_1 (nI t2) 2)
def s_X3_findLosses_2 (nq : Nat) (tf : Nat → Int32) (qf : Nat → Int32) (z0 : Nat → Int32) (z1 : Nat → Int32) : Nat → (Nat → Int32) × (Nat → Int32)
  | 0 => (z0, z1)
  | t + 1 => s_X3_findLosses_2s nq tf qf t ((s_X3_findLosses_2 nq tf qf z0 z1 t).1) ((s_X3_findLosses_2 nq tf qf z0 z1 t).2)
set_option maxHeartbeats 4000000 in
set_option maxRecDepth 100000 in
theorem c_X3_findLosses (l : Launch) (D : va_G) (cB cI cJ : ClassId) (ad : Nat → Nat) (n : Nat) (M : Nat → va_E) (hI : ipI ad n) (an h nt nq : Nat) (tof fk ck : Int32) (hv tf qf lof wof : Nat → Int32) (h_an : an < n) (h_an_3 : an + 3 < n) (h_an_4 : an + 4 < n) (h_an_5 : an + 5 < n) (h_an_6 : an + 6 < n) (h_h : h < n) (h_h_5 : h + 5 < n) (h_h_6 : h + 6 < n) (h_h_7 : h + 7 < n) (h_h_8 : h + 8 < n) (m_an : M an = .inr (3, plansF ad an tof fk ck)) (m_an_3 : M (an + 3) = .inr (8, [.int 1, .ref (ad (an + 4))])) (m_an_4 : M (an + 4) = .inl (cI, 12, .inl lof)) (m_an_5 : M (an + 5) = .inr (8, [.int 1, .ref (ad (an + 6))])) (m_an_6 : M (an + 6) = .inl (cI, 12, .inl wof)) (m_h : M h = .inr (0, hallF ad h hv)) (m_h_5 : M (h + 5) = .inr (8, [.int 7, .ref (ad (h + 6))])) (m_h_6 : M (h + 6) = .inl (cI, 84, .inl tf)) (m_h_7 : M (h + 7) = .inr (8, [.int 2, .ref (ad (h + 8))])) (m_h_8 : M (h + 8) = .inl (cI, 12, .inl qf)) (h7 : hv 7 = nI nt) (hnt : nt ≤ 12) (h8 : hv 8 = nI nq) (hnq : nq ≤ 6) (hah : an + 12 < h ∨ h + 15 < an) : cWv l D cB cI cJ ad n M yX3_findLosses wsX3_findLosses 2 46 [.ref (ad an), .ref (ad h)] (fun M' => M' (an + 4) = .inl (cI, 12, .inl ((s_X3_findLosses_2 nq tf qf lof wof nt).1)) ∧ M' (an + 6) = .inl (cI, 12, .inl ((s_X3_findLosses_2 nq tf qf lof wof nt).2)) ∧ ∀ q : Nat, q ≠ an + 4 → q ≠ an + 6 → M' q = M q) := by
  refine q_body (cc := cX3_findLosses) (maxL := 6) (ret := none) (by decide) rfl (Nat.le_of_ble_eq_true rfl) ?_
  intro p e s m args below meth c ls X hr hlocks hK hP hl
  obtain ⟨hx, hb, hml, hown, hts⟩ := id X
  have hS : va_S (ipA ad n) s.heap s.heap [] := va_S.rf
  have hl : lv_has ls 6 [(0, .ref (ad an)), (1, .ref (ad h))] := hl
  refine lv_iconst (v := 0) hx hb dX3_findLosses_0 (by decide) ?_
  refine lv_istore_n (lv' := [(2, .int 0), (0, .ref (ad an)), (1, .ref (ad h))]) hx hb dX3_findLosses_1 rfl hl (by decide) rfl (fun ls hl => ?_)
  have loop_2 : ∀ (fuel : Nat) (t2 : Nat) (y2_0 : Nat → Int32) (y2_1 : Nat → Int32), nt - (t2) < fuel → t2 ≤ nt → y2_0 = (s_X3_findLosses_2 nq tf qf lof wof t2).1 → y2_1 = (s_X3_findLosses_2 nq tf qf lof wof t2).2 → ∀ (ML2 : Nat → va_E) (H : Heap) (locs : List Loc), ML2 (an + 4) = .inl (cI, 12, .inl y2_0) → ML2 (an + 6) = .inl (cI, 12, .inl y2_1) → (∀ q : Nat, q ≠ an + 4 → q ≠ an + 6 → ML2 q = M q) → va_P D vwCl (ip ad n ML2) H → va_S (ipA ad n) s.heap H locs → ∀ (ls : Array Slot), lv_has ls 6 [(2, .int (nI t2)), (0, .ref (ad an)), (1, .ref (ad h))] → W p l e (rmOf 2 46) s m args below meth c H locs 0 0 (MQ below (va_Qv (fun M' => M' (an + 4) = .inl (cI, 12, .inl ((s_X3_findLosses_2 nq tf qf lof wof nt).1)) ∧ M' (an + 6) = .inl (cI, 12, .inl ((s_X3_findLosses_2 nq tf qf lof wof nt).2)) ∧ ∀ q : Nat, q ≠ an + 4 → q ≠ an + 6 → M' q = M q) (fun M' t => va_P D vwCl (ip ad n M') t.heap) (ipA ad n)) args s 0 0 (ipA ad n)) (F0 m 2 ls []) := by
    intro fuel
    induction fuel with
    | zero =>
      intro t2 y2_0 y2_1 hz
      exact absurd hz (Nat.not_lt_zero _)
    | succ fuel ih_2 =>
      intro t2 y2_0 y2_1 hz_2 h_t2 e_y2_0 e_y2_1 ML2 H locs mL2_0 mL2_1 fL2 hP hS ls hl
      skip
      refine lv_iload_n hx hb dX3_findLosses_2 rfl (lv_at hl 0 rfl) ?_
      refine lv_aload_n hx hb dX3_findLosses_3 rfl (lv_at hl 2 rfl) ?_
      refine q_get (v := .int (hv 7)) (fs := hallF ad h hv) X hK hP fX3_findLosses_77 h_h ((fL2 h (by omega) (by omega)).trans m_h) rfl dX3_findLosses_4 ?_
      refine lv_icmp_ge (tgt := 89) hx hb dX3_findLosses_7 (by decide) (fun c_7 => ?_) (fun c_7 => ?_)
      · rw [h7] at c_7
        have h9_2 : t2 = nt := eq_of_le (t := t2) (k := nt) c_7 (by omega) h_t2
        subst t2
        subst e_y2_0
        subst e_y2_1
        exact q_wvret X hr hlocks hP hS ⟨mL2_0, mL2_1, (fun q n0 n1 => (fL2 q n0 n1))⟩ dX3_findLosses_89
      · rw [h7] at c_7
        have h9_2 : t2 < nt := lt_of_nlt (t := t2) (k := nt) c_7 (by omega) h_t2
        refine lv_aload_n hx hb dX3_findLosses_10 rfl (lv_at hl 2 rfl) ?_
        refine q_get (v := .ref (ad (h + 5))) (fs := hallF ad h hv) X hK hP fX3_findLosses_82 h_h ((fL2 h (by omega) (by omega)).trans m_h) rfl dX3_findLosses_11 ?_
        refine lv_iload_n hx hb dX3_findLosses_14 rfl (lv_at hl 0 rfl) ?_
        refine lv_iconst (v := 4) hx hb dX3_findLosses_15 (by decide) ?_
        refine q_rdV (As := [.int (nI t2), .int 4]) (rest := []) (c_X8_at_ l D cB cI cJ ad n ML2 (h + 5) (h + 6) 84 7 tf (nI t2) 4 h_h_5 h_h_6 ((fL2 (h + 5) (by omega) (by omega)).trans m_h_5) ((fL2 (h + 6) (by omega) (by omega)).trans m_h_6) (by decide)) X hK hP hS hl.1 rfl gX3_findLosses_X8_at_ yd_X8_at_ ⟨Nat.le_of_ble_eq_true rfl, Nat.le_of_ble_eq_true rfl⟩ h_h_5 ((fL2 (h + 5) (by omega) (by omega)).trans m_h_5) (ci := 8) rfl rfl (Nat.le_of_ble_eq_true rfl) ⟨Nat.zero_le _, Nat.zero_le _⟩ dX3_findLosses_16 ?_
        refine lv_istore_n (lv' := [(3, .int (tat 84 tf ((nI t2) * 7 + 4))), (2, .int (nI t2)), (0, .ref (ad an)), (1, .ref (ad h))]) hx hb dX3_findLosses_19 rfl hl (by decide) rfl (fun ls hl => ?_)
        refine lv_aload_n hx hb dX3_findLosses_20 rfl (lv_at hl 3 rfl) ?_
        refine lv_iload_n hx hb dX3_findLosses_21 rfl (lv_at hl 1 rfl) ?_
        refine q_rdV (As := [.int (nI t2)]) (rest := []) (c_X0_priceOf l D cB cI cJ ad n ML2 h nq hv tf qf (nI t2) h_h h_h_5 h_h_6 h_h_7 h_h_8 ((fL2 h (by omega) (by omega)).trans m_h) ((fL2 (h + 5) (by omega) (by omega)).trans m_h_5) ((fL2 (h + 6) (by omega) (by omega)).trans m_h_6) ((fL2 (h + 7) (by omega) (by omega)).trans m_h_7) ((fL2 (h + 8) (by omega) (by omega)).trans m_h_8) h8 hnq) X hK hP hS hl.1 rfl gX3_findLosses_X0_priceOf yd_X0_priceOf ⟨Nat.le_of_ble_eq_true rfl, Nat.le_of_ble_eq_true rfl⟩ h_h ((fL2 h (by omega) (by omega)).trans m_h) (ci := 0) rfl rfl (Nat.le_of_ble_eq_true rfl) ⟨Nat.zero_le _, Nat.zero_le _⟩ dX3_findLosses_22 ?_
        refine lv_istore (lv' := [(4, .int (prS qf (tat 84 tf ((nI t2) * 7 + 1)) nq 0)), (3, .int (tat 84 tf ((nI t2) * 7 + 4))), (2, .int (nI t2)), (0, .ref (ad an)), (1, .ref (ad h))]) hx hb dX3_findLosses_25 hl (by decide) rfl (fun ls hl => ?_)
        refine lv_iload hx hb dX3_findLosses_27 (lv_at hl 0 rfl) ?_
        refine lv_iconst (v := (-1)) hx hb dX3_findLosses_29 (by decide) ?_
        refine lv_icmp_eq (tgt := 43) hx hb dX3_findLosses_30 (by decide) (fun c_30 => ?_) (fun c_30 => ?_)
        · skip
          refine lv_iconst (v := 0) hx hb dX3_findLosses_43 (by decide) ?_
          refine lv_istore (lv' := [(5, .int 0), (4, .int (prS qf (tat 84 tf ((nI t2) * 7 + 1)) nq 0)), (3, .int (tat 84 tf ((nI t2) * 7 + 4))), (2, .int (nI t2)), (0, .ref (ad an)), (1, .ref (ad h))]) hx hb dX3_findLosses_44 hl (by decide) rfl (fun ls hl => ?_)
          refine lv_aload_n hx hb dX3_findLosses_46 rfl (lv_at hl 4 rfl) ?_
          refine q_get (v := .ref (ad (an + 3))) (fs := plansF ad an tof fk ck) X hK hP fX3_findLosses_20 h_an ((fL2 an (by omega) (by omega)).trans m_an) rfl dX3_findLosses_47 ?_
          refine lv_iload_n hx hb dX3_findLosses_50 rfl (lv_at hl 3 rfl) ?_
          refine lv_iload hx hb dX3_findLosses_51 (lv_at hl 0 rfl) ?_
          refine lv_if_eq (tgt := 61) hx hb dX3_findLosses_53 (by decide) (fun c_53 => ?_) (fun c_53 => ?_)
          · clear c_53
            refine lv_iload_n hx hb dX3_findLosses_61 rfl (lv_at hl 2 rfl) ?_
            refine q_wrVv (As := [.int (nI t2), .int (tat 84 tf ((nI t2) * 7 + 4))]) (rest := []) (c_X8_set l D cB cI cJ ad n ML2 hI (an + 3) (an + 4) 12 1 y2_0 (nI t2) (tat 84 tf ((nI t2) * 7 + 4)) h_an_3 h_an_4 ((fL2 (an + 3) (by omega) (by omega)).trans m_an_3) mL2_0 (by decide)) X hK hP hS hl.1 rfl gX3_findLosses_X8_set yd_X8_set ⟨Nat.le_of_ble_eq_true rfl, Nat.le_of_ble_eq_true rfl⟩ h_an_3 ((fL2 (an + 3) (by omega) (by omega)).trans m_an_3) (ci := 8) rfl rfl (Nat.le_of_ble_eq_true rfl) ⟨Nat.zero_le _, Nat.zero_le _⟩ dX3_findLosses_62 (fun M2 H locs hp1 hP hS => ?_)
            obtain ⟨g4, fr5⟩ := hp1
            refine lv_aload_n hx hb dX3_findLosses_65 rfl (lv_at hl 4 rfl) ?_
            refine q_get (v := .ref (ad (an + 5))) (fs := plansF ad an tof fk ck) X hK hP fX3_findLosses_23 h_an ((fr5 an (by omega)).trans ((fL2 an (by omega) (by omega)).trans m_an)) rfl dX3_findLosses_66 ?_
            refine lv_iload_n hx hb dX3_findLosses_69 rfl (lv_at hl 3 rfl) ?_
            refine lv_iload hx hb dX3_findLosses_70 (lv_at hl 0 rfl) ?_
            refine lv_if_eq (tgt := 79) hx hb dX3_findLosses_72 (by decide) (fun c_72 => ?_) (fun c_72 => ?_)
            · clear c_72
              refine lv_iconst (v := 1) hx hb dX3_findLosses_79 (by decide) ?_
              refine q_wrVv (As := [.int (nI t2), .int 1]) (rest := []) (c_X8_set l D cB cI cJ ad n M2 hI (an + 5) (an + 6) 12 1 y2_1 (nI t2) 1 h_an_5 h_an_6 ((fr5 (an + 5) (by omega)).trans ((fL2 (an + 5) (by omega) (by omega)).trans m_an_5)) ((fr5 (an + 6) (by omega)).trans mL2_1) (by decide)) X hK hP hS hl.1 rfl gX3_findLosses_X8_set yd_X8_set ⟨Nat.le_of_ble_eq_true rfl, Nat.le_of_ble_eq_true rfl⟩ h_an_5 ((fr5 (an + 5) (by omega)).trans ((fL2 (an + 5) (by omega) (by omega)).trans m_an_5)) (ci := 8) rfl rfl (Nat.le_of_ble_eq_true rfl) ⟨Nat.zero_le _, Nat.zero_le _⟩ dX3_findLosses_80 (fun M7 H locs hp6 hP hS => ?_)
              obtain ⟨g9, fr10⟩ := hp6
              refine lv_iinc (v := ((nI t2) + 1)) (lv' := [(2, .int ((nI t2) + 1)), (5, .int 0), (4, .int (prS qf (tat 84 tf ((nI t2) * 7 + 1)) nq 0)), (3, .int (tat 84 tf ((nI t2) * 7 + 4))), (0, .ref (ad an)), (1, .ref (ad h))]) hx hb dX3_findLosses_83 hl (k := 3) rfl rfl (by decide) rfl (fun ls hl => ?_)
              refine lv_goto (tgt := 2) hx hb dX3_findLosses_86 (by decide) ?_
              exact ih_2 (t2 + 1) (tset 12 y2_0 (nI t2) (tat 84 tf ((nI t2) * 7 + 4))) (tset 12 y2_1 (nI t2) 1) (by omega) (by omega) (by rw [s_X3_findLosses_2, ← e_y2_0, ← e_y2_1, s_X3_findLosses_2s, if_pos c_30]) (by rw [s_X3_findLosses_2, ← e_y2_0, ← e_y2_1, s_X3_findLosses_2s, if_pos c_30]) _ _ _ ((fr10 (an + 4) (by omega)).trans g4) g9 (fun q n0 n1 => ((fr10 q n1).trans ((fr5 q n0).trans (fL2 q n0 n1)))) hP hS ls (by rw [(show nI (t2 + 1) = nI t2 + 1 by exact nI_succ _)]; exact lv_sub hl [0, 4, 5] rfl)
            · exact absurd c_72 (by decide)
          · exact absurd c_53 (by decide)
        · skip
          refine lv_iload hx hb dX3_findLosses_33 (lv_at hl 0 rfl) ?_
          refine lv_iload_n hx hb dX3_findLosses_35 rfl (lv_at hl 1 rfl) ?_
          refine lv_icmp_ge (tgt := 43) hx hb dX3_findLosses_36 (by decide) (fun c_36 => ?_) (fun c_36 => ?_)
          · skip
            refine lv_iconst (v := 0) hx hb dX3_findLosses_43 (by decide) ?_
            refine lv_istore (lv' := [(5, .int 0), (4, .int (prS qf (tat 84 tf ((nI t2) * 7 + 1)) nq 0)), (3, .int (tat 84 tf ((nI t2) * 7 + 4))), (2, .int (nI t2)), (0, .ref (ad an)), (1, .ref (ad h))]) hx hb dX3_findLosses_44 hl (by decide) rfl (fun ls hl => ?_)
            refine lv_aload_n hx hb dX3_findLosses_46 rfl (lv_at hl 4 rfl) ?_
            refine q_get (v := .ref (ad (an + 3))) (fs := plansF ad an tof fk ck) X hK hP fX3_findLosses_20 h_an ((fL2 an (by omega) (by omega)).trans m_an) rfl dX3_findLosses_47 ?_
            refine lv_iload_n hx hb dX3_findLosses_50 rfl (lv_at hl 3 rfl) ?_
            refine lv_iload hx hb dX3_findLosses_51 (lv_at hl 0 rfl) ?_
            refine lv_if_eq (tgt := 61) hx hb dX3_findLosses_53 (by decide) (fun c_53 => ?_) (fun c_53 => ?_)
            · clear c_53
              refine lv_iload_n hx hb dX3_findLosses_61 rfl (lv_at hl 2 rfl) ?_
              refine q_wrVv (As := [.int (nI t2), .int (tat 84 tf ((nI t2) * 7 + 4))]) (rest := []) (c_X8_set l D cB cI cJ ad n ML2 hI (an + 3) (an + 4) 12 1 y2_0 (nI t2) (tat 84 tf ((nI t2) * 7 + 4)) h_an_3 h_an_4 ((fL2 (an + 3) (by omega) (by omega)).trans m_an_3) mL2_0 (by decide)) X hK hP hS hl.1 rfl gX3_findLosses_X8_set yd_X8_set ⟨Nat.le_of_ble_eq_true rfl, Nat.le_of_ble_eq_true rfl⟩ h_an_3 ((fL2 (an + 3) (by omega) (by omega)).trans m_an_3) (ci := 8) rfl rfl (Nat.le_of_ble_eq_true rfl) ⟨Nat.zero_le _, Nat.zero_le _⟩ dX3_findLosses_62 (fun M12 H locs hp11 hP hS => ?_)
              obtain ⟨g14, fr15⟩ := hp11
              refine lv_aload_n hx hb dX3_findLosses_65 rfl (lv_at hl 4 rfl) ?_
              refine q_get (v := .ref (ad (an + 5))) (fs := plansF ad an tof fk ck) X hK hP fX3_findLosses_23 h_an ((fr15 an (by omega)).trans ((fL2 an (by omega) (by omega)).trans m_an)) rfl dX3_findLosses_66 ?_
              refine lv_iload_n hx hb dX3_findLosses_69 rfl (lv_at hl 3 rfl) ?_
              refine lv_iload hx hb dX3_findLosses_70 (lv_at hl 0 rfl) ?_
              refine lv_if_eq (tgt := 79) hx hb dX3_findLosses_72 (by decide) (fun c_72 => ?_) (fun c_72 => ?_)
              · clear c_72
                refine lv_iconst (v := 1) hx hb dX3_findLosses_79 (by decide) ?_
                refine q_wrVv (As := [.int (nI t2), .int 1]) (rest := []) (c_X8_set l D cB cI cJ ad n M12 hI (an + 5) (an + 6) 12 1 y2_1 (nI t2) 1 h_an_5 h_an_6 ((fr15 (an + 5) (by omega)).trans ((fL2 (an + 5) (by omega) (by omega)).trans m_an_5)) ((fr15 (an + 6) (by omega)).trans mL2_1) (by decide)) X hK hP hS hl.1 rfl gX3_findLosses_X8_set yd_X8_set ⟨Nat.le_of_ble_eq_true rfl, Nat.le_of_ble_eq_true rfl⟩ h_an_5 ((fr15 (an + 5) (by omega)).trans ((fL2 (an + 5) (by omega) (by omega)).trans m_an_5)) (ci := 8) rfl rfl (Nat.le_of_ble_eq_true rfl) ⟨Nat.zero_le _, Nat.zero_le _⟩ dX3_findLosses_80 (fun M17 H locs hp16 hP hS => ?_)
                obtain ⟨g19, fr20⟩ := hp16
                refine lv_iinc (v := ((nI t2) + 1)) (lv' := [(2, .int ((nI t2) + 1)), (5, .int 0), (4, .int (prS qf (tat 84 tf ((nI t2) * 7 + 1)) nq 0)), (3, .int (tat 84 tf ((nI t2) * 7 + 4))), (0, .ref (ad an)), (1, .ref (ad h))]) hx hb dX3_findLosses_83 hl (k := 3) rfl rfl (by decide) rfl (fun ls hl => ?_)
                refine lv_goto (tgt := 2) hx hb dX3_findLosses_86 (by decide) ?_
                exact ih_2 (t2 + 1) (tset 12 y2_0 (nI t2) (tat 84 tf ((nI t2) * 7 + 4))) (tset 12 y2_1 (nI t2) 1) (by omega) (by omega) (by rw [s_X3_findLosses_2, ← e_y2_0, ← e_y2_1, s_X3_findLosses_2s, if_neg c_30, if_pos c_36]) (by rw [s_X3_findLosses_2, ← e_y2_0, ← e_y2_1, s_X3_findLosses_2s, if_neg c_30, if_pos c_36]) _ _ _ ((fr20 (an + 4) (by omega)).trans g14) g19 (fun q n0 n1 => ((fr20 q n1).trans ((fr15 q n0).trans (fL2 q n0 n1)))) hP hS ls (by rw [(show nI (t2 + 1) = nI t2 + 1 by exact nI_succ _)]; exact lv_sub hl [0, 4, 5] rfl)
              · exact absurd c_72 (by decide)
            · exact absurd c_53 (by decide)
          · skip
            refine lv_iconst (v := 1) hx hb dX3_findLosses_39 (by decide) ?_
            refine lv_goto (tgt := 44) hx hb dX3_findLosses_40 (by decide) ?_
            refine lv_istore (lv' := [(5, .int 1), (4, .int (prS qf (tat 84 tf ((nI t2) * 7 + 1)) nq 0)), (3, .int (tat 84 tf ((nI t2) * 7 + 4))), (2, .int (nI t2)), (0, .ref (ad an)), (1, .ref (ad h))]) hx hb dX3_findLosses_44 hl (by decide) rfl (fun ls hl => ?_)
            refine lv_aload_n hx hb dX3_findLosses_46 rfl (lv_at hl 4 rfl) ?_
            refine q_get (v := .ref (ad (an + 3))) (fs := plansF ad an tof fk ck) X hK hP fX3_findLosses_20 h_an ((fL2 an (by omega) (by omega)).trans m_an) rfl dX3_findLosses_47 ?_
            refine lv_iload_n hx hb dX3_findLosses_50 rfl (lv_at hl 3 rfl) ?_
            refine lv_iload hx hb dX3_findLosses_51 (lv_at hl 0 rfl) ?_
            refine lv_if_eq (tgt := 61) hx hb dX3_findLosses_53 (by decide) (fun c_53 => ?_) (fun c_53 => ?_)
            · exact absurd c_53 (by decide)
            · clear c_53
              refine lv_iload hx hb dX3_findLosses_56 (lv_at hl 1 rfl) ?_
              refine lv_goto (tgt := 62) hx hb dX3_findLosses_58 (by decide) ?_
              refine q_wrVv (As := [.int (nI t2), .int (prS qf (tat 84 tf ((nI t2) * 7 + 1)) nq 0)]) (rest := []) (c_X8_set l D cB cI cJ ad n ML2 hI (an + 3) (an + 4) 12 1 y2_0 (nI t2) (prS qf (tat 84 tf ((nI t2) * 7 + 1)) nq 0) h_an_3 h_an_4 ((fL2 (an + 3) (by omega) (by omega)).trans m_an_3) mL2_0 (by decide)) X hK hP hS hl.1 rfl gX3_findLosses_X8_set yd_X8_set ⟨Nat.le_of_ble_eq_true rfl, Nat.le_of_ble_eq_true rfl⟩ h_an_3 ((fL2 (an + 3) (by omega) (by omega)).trans m_an_3) (ci := 8) rfl rfl (Nat.le_of_ble_eq_true rfl) ⟨Nat.zero_le _, Nat.zero_le _⟩ dX3_findLosses_62 (fun M22 H locs hp21 hP hS => ?_)
              obtain ⟨g24, fr25⟩ := hp21
              refine lv_aload_n hx hb dX3_findLosses_65 rfl (lv_at hl 4 rfl) ?_
              refine q_get (v := .ref (ad (an + 5))) (fs := plansF ad an tof fk ck) X hK hP fX3_findLosses_23 h_an ((fr25 an (by omega)).trans ((fL2 an (by omega) (by omega)).trans m_an)) rfl dX3_findLosses_66 ?_
              refine lv_iload_n hx hb dX3_findLosses_69 rfl (lv_at hl 3 rfl) ?_
              refine lv_iload hx hb dX3_findLosses_70 (lv_at hl 0 rfl) ?_
              refine lv_if_eq (tgt := 79) hx hb dX3_findLosses_72 (by decide) (fun c_72 => ?_) (fun c_72 => ?_)
              · exact absurd c_72 (by decide)
              · clear c_72
                refine lv_iconst (v := 2) hx hb dX3_findLosses_75 (by decide) ?_
                refine lv_goto (tgt := 80) hx hb dX3_findLosses_76 (by decide) ?_
                refine q_wrVv (As := [.int (nI t2), .int 2]) (rest := []) (c_X8_set l D cB cI cJ ad n M22 hI (an + 5) (an + 6) 12 1 y2_1 (nI t2) 2 h_an_5 h_an_6 ((fr25 (an + 5) (by omega)).trans ((fL2 (an + 5) (by omega) (by omega)).trans m_an_5)) ((fr25 (an + 6) (by omega)).trans mL2_1) (by decide)) X hK hP hS hl.1 rfl gX3_findLosses_X8_set yd_X8_set ⟨Nat.le_of_ble_eq_true rfl, Nat.le_of_ble_eq_true rfl⟩ h_an_5 ((fr25 (an + 5) (by omega)).trans ((fL2 (an + 5) (by omega) (by omega)).trans m_an_5)) (ci := 8) rfl rfl (Nat.le_of_ble_eq_true rfl) ⟨Nat.zero_le _, Nat.zero_le _⟩ dX3_findLosses_80 (fun M27 H locs hp26 hP hS => ?_)
                obtain ⟨g29, fr30⟩ := hp26
                refine lv_iinc (v := ((nI t2) + 1)) (lv' := [(2, .int ((nI t2) + 1)), (5, .int 1), (4, .int (prS qf (tat 84 tf ((nI t2) * 7 + 1)) nq 0)), (3, .int (tat 84 tf ((nI t2) * 7 + 4))), (0, .ref (ad an)), (1, .ref (ad h))]) hx hb dX3_findLosses_83 hl (k := 3) rfl rfl (by decide) rfl (fun ls hl => ?_)
                refine lv_goto (tgt := 2) hx hb dX3_findLosses_86 (by decide) ?_
                exact ih_2 (t2 + 1) (tset 12 y2_0 (nI t2) (prS qf (tat 84 tf ((nI t2) * 7 + 1)) nq 0)) (tset 12 y2_1 (nI t2) 2) (by omega) (by omega) (by rw [s_X3_findLosses_2, ← e_y2_0, ← e_y2_1, s_X3_findLosses_2s, if_neg c_30, if_neg c_36]) (by rw [s_X3_findLosses_2, ← e_y2_0, ← e_y2_1, s_X3_findLosses_2s, if_neg c_30, if_neg c_36]) _ _ _ ((fr30 (an + 4) (by omega)).trans g24) g29 (fun q n0 n1 => ((fr30 q n1).trans ((fr25 q n0).trans (fL2 q n0 n1)))) hP hS ls (by rw [(show nI (t2 + 1) = nI t2 + 1 by exact nI_succ _)]; exact lv_sub hl [0, 4, 5] rfl)
  exact loop_2 (nt + 1) 0 lof wof (by omega) (by omega) (by rfl) (by rfl) _ _ _ m_an_4 m_an_6 (fun q n0 n1 => rfl) hP hS ls (lv_sub hl [0, 1, 2] rfl)
set_option maxRecDepth 20000 in
theorem fX3_lossOf_20 : FL wsX3_lossOf RX3 20 3 3 := ⟨RX3, TX3, 9, rfl, by decide +kernel, by decide, by decide +kernel⟩
def s_X3_lossOf_4s (lof : Nat → Int32) (x : Int32) (t4 : Nat) (x4_2 : Int32) : Int32 := if ((x >>> ((nI t4) &&& 31)) &&& 1) = 0 then (x4_2 + 0) else (x4_2 + (tat 12 lof (nI t4)))
def s_X3_lossOf_4 (lof : Nat → Int32) (x : Int32) (z0 : Int32) : Nat → Int32
  | 0 => z0
  | t + 1 => s_X3_lossOf_4s lof x t (s_X3_lossOf_4 lof x z0 t)
def s_X3_lossOf (lof : Nat → Int32) (x : Int32) : Int32 := (s_X3_lossOf_4 lof x 0 12)
set_option maxHeartbeats 4000000 in
set_option maxRecDepth 100000 in
theorem c_X3_lossOf (l : Launch) (D : va_G) (cB cI cJ : ClassId) (ad : Nat → Nat) (n : Nat) (M : Nat → va_E) (an : Nat) (tof fk ck : Int32) (lof : Nat → Int32) (x : Int32) (h_an : an < n) (h_an_3 : an + 3 < n) (h_an_4 : an + 4 < n) (m_an : M an = .inr (3, plansF ad an tof fk ck)) (m_an_3 : M (an + 3) = .inr (8, [.int 1, .ref (ad (an + 4))])) (m_an_4 : M (an + 4) = .inl (cI, 12, .inl lof))  : cR l D cB cI cJ ad n M yX3_lossOf wsX3_lossOf 1 21 [.ref (ad an), .int x] (s_X3_lossOf lof x) := by
  refine q_body (cc := cX3_lossOf) (maxL := 4) (ret := (some .int)) (by decide) rfl (Nat.le_of_ble_eq_true rfl) ?_
  intro p e s m args below meth c ls X hr hlocks hK hP hl
  obtain ⟨hx, hb, hml, hown, hts⟩ := id X
  have hS : va_S (ipA ad n) s.heap s.heap [] := va_S.rf
  have hl : lv_has ls 4 [(0, .ref (ad an)), (1, .int x)] := hl
  refine lv_iconst (v := 0) hx hb dX3_lossOf_0 (by decide) ?_
  refine lv_istore_n (lv' := [(2, .int 0), (0, .ref (ad an)), (1, .int x)]) hx hb dX3_lossOf_1 rfl hl (by decide) rfl (fun ls hl => ?_)
  refine lv_iconst (v := 0) hx hb dX3_lossOf_2 (by decide) ?_
  refine lv_istore_n (lv' := [(3, .int 0), (2, .int 0), (0, .ref (ad an)), (1, .int x)]) hx hb dX3_lossOf_3 rfl hl (by decide) rfl (fun ls hl => ?_)
  have loop_4 : ∀ (fuel : Nat) (t4 : Nat) (x4_2 : Int32), 12 - (t4) < fuel → t4 ≤ 12 → x4_2 = (s_X3_lossOf_4 lof x 0 t4) → ∀ (ls : Array Slot), lv_has ls 4 [(3, .int (nI t4)), (2, .int x4_2), (0, .ref (ad an)), (1, .int x)] → W p l e (rmOf 1 21) s m args below meth c s.heap [] 0 0 (MQ below (vp_Si (fun r9 => r9 = s_X3_lossOf lof x)) args s 0 0 (fun _ => False)) (F0 m 4 ls []) := by
    intro fuel
    induction fuel with
    | zero =>
      intro t4 x4_2 hz
      exact absurd hz (Nat.not_lt_zero _)
    | succ fuel ih_4 =>
      intro t4 x4_2 hz_4 h_t4 e_x4_2 ls hl
      skip
      refine lv_iload_n hx hb dX3_lossOf_4 rfl (lv_at hl 0 rfl) ?_
      refine lv_bipush (v := 12) hx hb dX3_lossOf_5 (by decide) ?_
      refine lv_icmp_ge (tgt := 39) hx hb dX3_lossOf_7 (by decide) (fun c_7 => ?_) (fun c_7 => ?_)
      · skip
        have h9_4 : t4 = 12 := eq_of_le (t := t4) (k := 12) c_7 (by omega) h_t4
        subst h9_4
        subst e_x4_2
        refine lv_iload_n hx hb dX3_lossOf_39 rfl (lv_at hl 1 rfl) ?_
        exact q_iret hb hx hr hlocks (by rfl) dX3_lossOf_40
      · skip
        have h9_4 : t4 < 12 := lt_of_nlt (t := t4) (k := 12) c_7 (by omega) h_t4
        refine lv_iload_n hx hb dX3_lossOf_10 rfl (lv_at hl 1 rfl) ?_
        refine lv_iload_n hx hb dX3_lossOf_11 rfl (lv_at hl 3 rfl) ?_
        refine lv_iload_n hx hb dX3_lossOf_12 rfl (lv_at hl 0 rfl) ?_
        refine lv_ishr hx hb dX3_lossOf_13 ?_
        refine lv_iconst (v := 1) hx hb dX3_lossOf_14 (by decide) ?_
        refine lv_iand hx hb dX3_lossOf_15 ?_
        refine lv_if_eq (tgt := 30) hx hb dX3_lossOf_16 (by decide) (fun c_16 => ?_) (fun c_16 => ?_)
        · skip
          refine lv_iconst (v := 0) hx hb dX3_lossOf_30 (by decide) ?_
          refine lv_iadd hx hb dX3_lossOf_31 ?_
          refine lv_istore_n (lv' := [(2, .int (x4_2 + 0)), (3, .int (nI t4)), (0, .ref (ad an)), (1, .int x)]) hx hb dX3_lossOf_32 rfl hl (by decide) rfl (fun ls hl => ?_)
          refine lv_iinc (v := ((nI t4) + 1)) (lv' := [(3, .int ((nI t4) + 1)), (2, .int (x4_2 + 0)), (0, .ref (ad an)), (1, .int x)]) hx hb dX3_lossOf_33 hl (k := 1) rfl rfl (by decide) rfl (fun ls hl => ?_)
          refine lv_goto (tgt := 4) hx hb dX3_lossOf_36 (by decide) ?_
          exact ih_4 (t4 + 1) (x4_2 + 0) (by omega) (by omega) (by rw [s_X3_lossOf_4, ← e_x4_2, s_X3_lossOf_4s, if_pos c_16]) ls (by rw [(show nI (t4 + 1) = nI t4 + 1 by exact nI_succ _)]; exact lv_sub hl [0, 1, 2, 3] rfl)
        · skip
          refine lv_aload_n hx hb dX3_lossOf_19 rfl (lv_at hl 2 rfl) ?_
          refine q_get (v := .ref (ad (an + 3))) (fs := plansF ad an tof fk ck) X hK hP fX3_lossOf_20 h_an m_an rfl dX3_lossOf_20 ?_
          refine lv_iload_n hx hb dX3_lossOf_23 rfl (lv_at hl 0 rfl) ?_
          refine q_rdV (As := [.int (nI t4)]) (rest := [.int x4_2]) (c_X8_at l D cB cI cJ ad n M (an + 3) (an + 4) 12 1 lof (nI t4) h_an_3 h_an_4 m_an_3 m_an_4 (by decide)) X hK hP hS hl.1 rfl gX3_lossOf_X8_at yd_X8_at ⟨Nat.le_of_ble_eq_true rfl, Nat.le_of_ble_eq_true rfl⟩ h_an_3 m_an_3 (ci := 8) rfl rfl (Nat.le_of_ble_eq_true rfl) ⟨Nat.zero_le _, Nat.zero_le _⟩ dX3_lossOf_24 ?_
          refine lv_goto (tgt := 31) hx hb dX3_lossOf_27 (by decide) ?_
          refine lv_iadd hx hb dX3_lossOf_31 ?_
          refine lv_istore_n (lv' := [(2, .int (x4_2 + (tat 12 lof (nI t4)))), (3, .int (nI t4)), (0, .ref (ad an)), (1, .int x)]) hx hb dX3_lossOf_32 rfl hl (by decide) rfl (fun ls hl => ?_)
          refine lv_iinc (v := ((nI t4) + 1)) (lv' := [(3, .int ((nI t4) + 1)), (2, .int (x4_2 + (tat 12 lof (nI t4)))), (0, .ref (ad an)), (1, .int x)]) hx hb dX3_lossOf_33 hl (k := 1) rfl rfl (by decide) rfl (fun ls hl => ?_)
          refine lv_goto (tgt := 4) hx hb dX3_lossOf_36 (by decide) ?_
          exact ih_4 (t4 + 1) (x4_2 + (tat 12 lof (nI t4))) (by omega) (by omega) (by rw [s_X3_lossOf_4, ← e_x4_2, s_X3_lossOf_4s, if_neg c_16]) ls (by rw [(show nI (t4 + 1) = nI t4 + 1 by exact nI_succ _)]; exact lv_sub hl [0, 1, 2, 3] rfl)
  exact loop_4 (12 + 1) 0 0 (by omega) (by omega) (by rfl) ls (lv_sub hl [0, 1, 2, 3] rfl)
set_option maxRecDepth 20000 in
theorem fX3_fateWith_23 : FL wsX3_fateWith RX3 23 3 4 := ⟨RX3, TX3, 9, rfl, by decide +kernel, by decide, by decide +kernel⟩
def s_X3_fateWith (wof : Nat → Int32) (x : Int32) (y : Int32) : Int32 := if ((x >>> (y &&& 31)) &&& 1) = 0 then 0 else (tat 12 wof y)
set_option maxHeartbeats 4000000 in
set_option maxRecDepth 100000 in
theorem c_X3_fateWith (l : Launch) (D : va_G) (cB cI cJ : ClassId) (ad : Nat → Nat) (n : Nat) (M : Nat → va_E) (an : Nat) (tof fk ck : Int32) (wof : Nat → Int32) (x y : Int32) (h_an : an < n) (h_an_5 : an + 5 < n) (h_an_6 : an + 6 < n) (m_an : M an = .inr (3, plansF ad an tof fk ck)) (m_an_5 : M (an + 5) = .inr (8, [.int 1, .ref (ad (an + 6))])) (m_an_6 : M (an + 6) = .inl (cI, 12, .inl wof))  : cR l D cB cI cJ ad n M yX3_fateWith wsX3_fateWith 1 21 [.ref (ad an), .int x, .int y] (s_X3_fateWith wof x y) := by
  refine q_body (cc := cX3_fateWith) (maxL := 3) (ret := (some .int)) (by decide) rfl (Nat.le_of_ble_eq_true rfl) ?_
  intro p e s m args below meth c ls X hr hlocks hK hP hl
  obtain ⟨hx, hb, hml, hown, hts⟩ := id X
  have hS : va_S (ipA ad n) s.heap s.heap [] := va_S.rf
  have hl : lv_has ls 3 [(0, .ref (ad an)), (1, .int x), (2, .int y)] := hl
  refine lv_iload_n hx hb dX3_fateWith_0 rfl (lv_at hl 1 rfl) ?_
  refine lv_iload_n hx hb dX3_fateWith_1 rfl (lv_at hl 2 rfl) ?_
  refine lv_ishr hx hb dX3_fateWith_2 ?_
  refine lv_iconst (v := 1) hx hb dX3_fateWith_3 (by decide) ?_
  refine lv_iand hx hb dX3_fateWith_4 ?_
  refine lv_if_eq (tgt := 19) hx hb dX3_fateWith_5 (by decide) (fun c_5 => ?_) (fun c_5 => ?_)
  · skip
    refine lv_iconst (v := 0) hx hb dX3_fateWith_19 (by decide) ?_
    exact q_iret hb hx hr hlocks (by rw [s_X3_fateWith, if_pos c_5]) dX3_fateWith_20
  · skip
    refine lv_aload_n hx hb dX3_fateWith_8 rfl (lv_at hl 0 rfl) ?_
    refine q_get (v := .ref (ad (an + 5))) (fs := plansF ad an tof fk ck) X hK hP fX3_fateWith_23 h_an m_an rfl dX3_fateWith_9 ?_
    refine lv_iload_n hx hb dX3_fateWith_12 rfl (lv_at hl 2 rfl) ?_
    refine q_rdV (As := [.int y]) (rest := []) (c_X8_at l D cB cI cJ ad n M (an + 5) (an + 6) 12 1 wof y h_an_5 h_an_6 m_an_5 m_an_6 (by decide)) X hK hP hS hl.1 rfl gX3_fateWith_X8_at yd_X8_at ⟨Nat.le_of_ble_eq_true rfl, Nat.le_of_ble_eq_true rfl⟩ h_an_5 m_an_5 (ci := 8) rfl rfl (Nat.le_of_ble_eq_true rfl) ⟨Nat.zero_le _, Nat.zero_le _⟩ dX3_fateWith_13 ?_
    refine lv_goto (tgt := 20) hx hb dX3_fateWith_16 (by decide) ?_
    exact q_iret hb hx hr hlocks (by rw [s_X3_fateWith, if_neg c_5]) dX3_fateWith_20
theorem yd_X3_fateWith : YD yX3_fateWith 2 := ⟨by decide +kernel, by decide +kernel, by decide +kernel⟩
def s_X3_rowOf_4s (wof : Nat → Int32) (x : Int32) (t4 : Nat) (x4_2 : Int32) : Int32 := ((x4_2 * 3) + (s_X3_fateWith wof x (nI t4)))
def s_X3_rowOf_4 (wof : Nat → Int32) (x : Int32) (z0 : Int32) : Nat → Int32
  | 0 => z0
  | t + 1 => s_X3_rowOf_4s wof x t (s_X3_rowOf_4 wof x z0 t)
def s_X3_rowOf (wof : Nat → Int32) (x : Int32) : Int32 := (s_X3_rowOf_4 wof x 0 12)
set_option maxHeartbeats 4000000 in
set_option maxRecDepth 100000 in
theorem c_X3_rowOf (l : Launch) (D : va_G) (cB cI cJ : ClassId) (ad : Nat → Nat) (n : Nat) (M : Nat → va_E) (an : Nat) (tof fk ck : Int32) (wof : Nat → Int32) (x : Int32) (h_an : an < n) (h_an_5 : an + 5 < n) (h_an_6 : an + 6 < n) (m_an : M an = .inr (3, plansF ad an tof fk ck)) (m_an_5 : M (an + 5) = .inr (8, [.int 1, .ref (ad (an + 6))])) (m_an_6 : M (an + 6) = .inl (cI, 12, .inl wof))  : cR l D cB cI cJ ad n M yX3_rowOf wsX3_rowOf 2 43 [.ref (ad an), .int x] (s_X3_rowOf wof x) := by
  refine q_body (cc := cX3_rowOf) (maxL := 4) (ret := (some .int)) (by decide) rfl (Nat.le_of_ble_eq_true rfl) ?_
  intro p e s m args below meth c ls X hr hlocks hK hP hl
  obtain ⟨hx, hb, hml, hown, hts⟩ := id X
  have hS : va_S (ipA ad n) s.heap s.heap [] := va_S.rf
  have hl : lv_has ls 4 [(0, .ref (ad an)), (1, .int x)] := hl
  refine lv_iconst (v := 0) hx hb dX3_rowOf_0 (by decide) ?_
  refine lv_istore_n (lv' := [(2, .int 0), (0, .ref (ad an)), (1, .int x)]) hx hb dX3_rowOf_1 rfl hl (by decide) rfl (fun ls hl => ?_)
  refine lv_iconst (v := 0) hx hb dX3_rowOf_2 (by decide) ?_
  refine lv_istore_n (lv' := [(3, .int 0), (2, .int 0), (0, .ref (ad an)), (1, .int x)]) hx hb dX3_rowOf_3 rfl hl (by decide) rfl (fun ls hl => ?_)
  have loop_4 : ∀ (fuel : Nat) (t4 : Nat) (x4_2 : Int32), 12 - (t4) < fuel → t4 ≤ 12 → x4_2 = (s_X3_rowOf_4 wof x 0 t4) → ∀ (ls : Array Slot), lv_has ls 4 [(3, .int (nI t4)), (2, .int x4_2), (0, .ref (ad an)), (1, .int x)] → W p l e (rmOf 2 43) s m args below meth c s.heap [] 0 0 (MQ below (vp_Si (fun r9 => r9 = s_X3_rowOf wof x)) args s 0 0 (fun _ => False)) (F0 m 4 ls []) := by
    intro fuel
    induction fuel with
    | zero =>
      intro t4 x4_2 hz
      exact absurd hz (Nat.not_lt_zero _)
    | succ fuel ih_4 =>
      intro t4 x4_2 hz_4 h_t4 e_x4_2 ls hl
      skip
      refine lv_iload_n hx hb dX3_rowOf_4 rfl (lv_at hl 0 rfl) ?_
      refine lv_bipush (v := 12) hx hb dX3_rowOf_5 (by decide) ?_
      refine lv_icmp_ge (tgt := 27) hx hb dX3_rowOf_7 (by decide) (fun c_7 => ?_) (fun c_7 => ?_)
      · skip
        have h9_4 : t4 = 12 := eq_of_le (t := t4) (k := 12) c_7 (by omega) h_t4
        subst h9_4
        subst e_x4_2
        refine lv_iload_n hx hb dX3_rowOf_27 rfl (lv_at hl 1 rfl) ?_
        exact q_iret hb hx hr hlocks (by rfl) dX3_rowOf_28
      · skip
        have h9_4 : t4 < 12 := lt_of_nlt (t := t4) (k := 12) c_7 (by omega) h_t4
        refine lv_iload_n hx hb dX3_rowOf_10 rfl (lv_at hl 1 rfl) ?_
        refine lv_iconst (v := 3) hx hb dX3_rowOf_11 (by decide) ?_
        refine lv_imul hx hb dX3_rowOf_12 ?_
        refine lv_aload_n hx hb dX3_rowOf_13 rfl (lv_at hl 2 rfl) ?_
        refine lv_iload_n hx hb dX3_rowOf_14 rfl (lv_at hl 3 rfl) ?_
        refine lv_iload_n hx hb dX3_rowOf_15 rfl (lv_at hl 0 rfl) ?_
        refine q_rdV (As := [.int x, .int (nI t4)]) (rest := [.int (x4_2 * 3)]) (c_X3_fateWith l D cB cI cJ ad n M an tof fk ck wof x (nI t4) h_an h_an_5 h_an_6 m_an m_an_5 m_an_6 ) X hK hP hS hl.1 rfl gX3_rowOf_X3_fateWith yd_X3_fateWith ⟨Nat.le_of_ble_eq_true rfl, Nat.le_of_ble_eq_true rfl⟩ h_an m_an (ci := 3) rfl rfl (Nat.le_of_ble_eq_true rfl) ⟨Nat.zero_le _, Nat.zero_le _⟩ dX3_rowOf_16 ?_
        refine lv_iadd hx hb dX3_rowOf_19 ?_
        refine lv_istore_n (lv' := [(2, .int ((x4_2 * 3) + (s_X3_fateWith wof x (nI t4)))), (3, .int (nI t4)), (0, .ref (ad an)), (1, .int x)]) hx hb dX3_rowOf_20 rfl hl (by decide) rfl (fun ls hl => ?_)
        refine lv_iinc (v := ((nI t4) + 1)) (lv' := [(3, .int ((nI t4) + 1)), (2, .int ((x4_2 * 3) + (s_X3_fateWith wof x (nI t4)))), (0, .ref (ad an)), (1, .int x)]) hx hb dX3_rowOf_21 hl (k := 1) rfl rfl (by decide) rfl (fun ls hl => ?_)
        refine lv_goto (tgt := 4) hx hb dX3_rowOf_24 (by decide) ?_
        exact ih_4 (t4 + 1) ((x4_2 * 3) + (s_X3_fateWith wof x (nI t4))) (by omega) (by omega) (by rw [s_X3_rowOf_4, ← e_x4_2, s_X3_rowOf_4s]) ls (by rw [(show nI (t4 + 1) = nI t4 + 1 by exact nI_succ _)]; exact lv_sub hl [0, 1, 2, 3] rfl)
  exact loop_4 (12 + 1) 0 0 (by omega) (by omega) (by rfl) ls (lv_sub hl [0, 1, 2, 3] rfl)
set_option maxRecDepth 20000 in
theorem fX3_keepRow_14 : FL wsX3_keepRow RX3 14 3 0 := ⟨RX3, TX3, 9, rfl, by decide +kernel, by decide, by decide +kernel⟩
def s_X3_keepRow_2s (wof : Nat → Int32) (x : Int32) (t2 : Nat) (y2_0 : Nat → Int32) : (Nat → Int32) := (tset 12 y2_0 (nI t2) (s_X3_fateWith wof x (nI t2)))
def s_X3_keepRow_2 (wof : Nat → Int32) (x : Int32) (z0 : Nat → Int32) : Nat → (Nat → Int32)
  | 0 => z0
  | t + 1 => s_X3_keepRow_2s wof x t (s_X3_keepRow_2 wof x z0 t)
set_option maxHeartbeats 4000000 in
set_option maxRecDepth 100000 in
theorem c_X3_keepRow (l : Launch) (D : va_G) (cB cI cJ : ClassId) (ad : Nat → Nat) (n : Nat) (M : Nat → va_E) (hI : ipI ad n) (an : Nat) (tof fk ck : Int32) (faf wof : Nat → Int32) (x : Int32) (h_an : an < n) (h_an_1 : an + 1 < n) (h_an_2 : an + 2 < n) (h_an_5 : an + 5 < n) (h_an_6 : an + 6 < n) (m_an : M an = .inr (3, plansF ad an tof fk ck)) (m_an_1 : M (an + 1) = .inr (8, [.int 1, .ref (ad (an + 2))])) (m_an_2 : M (an + 2) = .inl (cI, 12, .inl faf)) (m_an_5 : M (an + 5) = .inr (8, [.int 1, .ref (ad (an + 6))])) (m_an_6 : M (an + 6) = .inl (cI, 12, .inl wof))  : cWv l D cB cI cJ ad n M yX3_keepRow wsX3_keepRow 2 43 [.ref (ad an), .int x] (fun M' => M' (an + 2) = .inl (cI, 12, .inl (s_X3_keepRow_2 wof x faf 12)) ∧ ∀ q : Nat, q ≠ an + 2 → M' q = M q) := by
  refine q_body (cc := cX3_keepRow) (maxL := 3) (ret := none) (by decide) rfl (Nat.le_of_ble_eq_true rfl) ?_
  intro p e s m args below meth c ls X hr hlocks hK hP hl
  obtain ⟨hx, hb, hml, hown, hts⟩ := id X
  have hS : va_S (ipA ad n) s.heap s.heap [] := va_S.rf
  have hl : lv_has ls 3 [(0, .ref (ad an)), (1, .int x)] := hl
  refine lv_iconst (v := 0) hx hb dX3_keepRow_0 (by decide) ?_
  refine lv_istore_n (lv' := [(2, .int 0), (0, .ref (ad an)), (1, .int x)]) hx hb dX3_keepRow_1 rfl hl (by decide) rfl (fun ls hl => ?_)
  have loop_2 : ∀ (fuel : Nat) (t2 : Nat) (y2_0 : Nat → Int32), 12 - (t2) < fuel → t2 ≤ 12 → y2_0 = (s_X3_keepRow_2 wof x faf t2) → ∀ (ML2 : Nat → va_E) (H : Heap) (locs : List Loc), ML2 (an + 2) = .inl (cI, 12, .inl y2_0) → (∀ q : Nat, q ≠ an + 2 → ML2 q = M q) → va_P D vwCl (ip ad n ML2) H → va_S (ipA ad n) s.heap H locs → ∀ (ls : Array Slot), lv_has ls 3 [(2, .int (nI t2)), (0, .ref (ad an)), (1, .int x)] → W p l e (rmOf 2 43) s m args below meth c H locs 0 0 (MQ below (va_Qv (fun M' => M' (an + 2) = .inl (cI, 12, .inl (s_X3_keepRow_2 wof x faf 12)) ∧ ∀ q : Nat, q ≠ an + 2 → M' q = M q) (fun M' t => va_P D vwCl (ip ad n M') t.heap) (ipA ad n)) args s 0 0 (ipA ad n)) (F0 m 2 ls []) := by
    intro fuel
    induction fuel with
    | zero =>
      intro t2 y2_0 hz
      exact absurd hz (Nat.not_lt_zero _)
    | succ fuel ih_2 =>
      intro t2 y2_0 hz_2 h_t2 e_y2_0 ML2 H locs mL2_0 fL2 hP hS ls hl
      skip
      refine lv_iload_n hx hb dX3_keepRow_2 rfl (lv_at hl 0 rfl) ?_
      refine lv_bipush (v := 12) hx hb dX3_keepRow_3 (by decide) ?_
      refine lv_icmp_ge (tgt := 28) hx hb dX3_keepRow_5 (by decide) (fun c_5 => ?_) (fun c_5 => ?_)
      · skip
        have h9_2 : t2 = 12 := eq_of_le (t := t2) (k := 12) c_5 (by omega) h_t2
        subst h9_2
        subst e_y2_0
        exact q_wvret X hr hlocks hP hS ⟨mL2_0, (fun q n0 => (fL2 q n0))⟩ dX3_keepRow_28
      · skip
        have h9_2 : t2 < 12 := lt_of_nlt (t := t2) (k := 12) c_5 (by omega) h_t2
        refine lv_aload_n hx hb dX3_keepRow_8 rfl (lv_at hl 1 rfl) ?_
        refine q_get (v := .ref (ad (an + 1))) (fs := plansF ad an tof fk ck) X hK hP fX3_keepRow_14 h_an ((fL2 an (by omega)).trans m_an) rfl dX3_keepRow_9 ?_
        refine lv_iload_n hx hb dX3_keepRow_12 rfl (lv_at hl 0 rfl) ?_
        refine lv_aload_n hx hb dX3_keepRow_13 rfl (lv_at hl 1 rfl) ?_
        refine lv_iload_n hx hb dX3_keepRow_14 rfl (lv_at hl 2 rfl) ?_
        refine lv_iload_n hx hb dX3_keepRow_15 rfl (lv_at hl 0 rfl) ?_
        refine q_rdV (As := [.int x, .int (nI t2)]) (rest := [.int (nI t2), .ref (ad (an + 1))]) (c_X3_fateWith l D cB cI cJ ad n ML2 an tof fk ck wof x (nI t2) h_an h_an_5 h_an_6 ((fL2 an (by omega)).trans m_an) ((fL2 (an + 5) (by omega)).trans m_an_5) ((fL2 (an + 6) (by omega)).trans m_an_6) ) X hK hP hS hl.1 rfl gX3_keepRow_X3_fateWith yd_X3_fateWith ⟨Nat.le_of_ble_eq_true rfl, Nat.le_of_ble_eq_true rfl⟩ h_an ((fL2 an (by omega)).trans m_an) (ci := 3) rfl rfl (Nat.le_of_ble_eq_true rfl) ⟨Nat.zero_le _, Nat.zero_le _⟩ dX3_keepRow_16 ?_
        refine q_wrVv (As := [.int (nI t2), .int (s_X3_fateWith wof x (nI t2))]) (rest := []) (c_X8_set l D cB cI cJ ad n ML2 hI (an + 1) (an + 2) 12 1 y2_0 (nI t2) (s_X3_fateWith wof x (nI t2)) h_an_1 h_an_2 ((fL2 (an + 1) (by omega)).trans m_an_1) mL2_0 (by decide)) X hK hP hS hl.1 rfl gX3_keepRow_X8_set yd_X8_set ⟨Nat.le_of_ble_eq_true rfl, Nat.le_of_ble_eq_true rfl⟩ h_an_1 ((fL2 (an + 1) (by omega)).trans m_an_1) (ci := 8) rfl rfl (Nat.le_of_ble_eq_true rfl) ⟨Nat.zero_le _, Nat.zero_le _⟩ dX3_keepRow_19 (fun M2 H locs hp1 hP hS => ?_)
        obtain ⟨g4, fr5⟩ := hp1
        refine lv_iinc (v := ((nI t2) + 1)) (lv' := [(2, .int ((nI t2) + 1)), (0, .ref (ad an)), (1, .int x)]) hx hb dX3_keepRow_22 hl (k := 0) rfl rfl (by decide) rfl (fun ls hl => ?_)
        refine lv_goto (tgt := 2) hx hb dX3_keepRow_25 (by decide) ?_
        exact ih_2 (t2 + 1) (tset 12 y2_0 (nI t2) (s_X3_fateWith wof x (nI t2))) (by omega) (by omega) (by rw [s_X3_keepRow_2, ← e_y2_0, s_X3_keepRow_2s]) _ _ _ g4 (fun q n0 => ((fr5 q n0).trans (fL2 q n0))) hP hS ls (by rw [(show nI (t2 + 1) = nI t2 + 1 by exact nI_succ _)]; exact lv_sub hl [0, 1, 2] rfl)
  exact loop_2 (12 + 1) 0 faf (by omega) (by omega) (by rfl) _ _ _ m_an_2 (fun q n0 => rfl) hP hS ls (lv_sub hl [0, 1, 2] rfl)
set_option maxRecDepth 20000 in
theorem nX3_leastFor_46 : ∀ w ∈ u_ws RX7 TX7 3, w ∈ wsX3_leastFor := by decide +kernel
theorem yd_X3_findLosses : YD yX3_findLosses 1 := ⟨by decide +kernel, by decide +kernel, by decide +kernel⟩
set_option maxRecDepth 20000 in
theorem fX3_leastFor_42 : FL wsX3_leastFor RX3 42 3 1 := ⟨RX3, TX3, 9, rfl, by decide +kernel, by decide, by decide +kernel⟩
theorem fw_3_1 : FW 3 1 .int := ⟨RX3, TX3, 9, tyX3, rfl, tyX3_ok, nmX3, by decide, rfl, by decide +kernel⟩
set_option maxRecDepth 20000 in
theorem fX3_leastFor_35 : FL wsX3_leastFor RX3 35 3 2 := ⟨RX3, TX3, 9, rfl, by decide +kernel, by decide, by decide +kernel⟩
theorem yd_X7_feeOf : YD yX7_feeOf 1 := ⟨by decide +kernel, by decide +kernel, by decide +kernel⟩
theorem yd_X3_lossOf : YD yX3_lossOf 1 := ⟨by decide +kernel, by decide +kernel, by decide +kernel⟩
theorem yd_X3_rowOf : YD yX3_rowOf 1 := ⟨by decide +kernel, by decide +kernel, by decide +kernel⟩
theorem yd_X3_keepRow : YD yX3_keepRow 1 := ⟨by decide +kernel, by decide +kernel, by decide +kernel⟩
def s_X3_leastFor_34s (nl : Nat) (nt : Nat) (nq : Nat) (td : Int32) (lof : Nat → Int32) (wof : Nat → Int32) (cf : Nat → Int32) (tf : Nat → Int32) (qf : Nat → Int32) (rf : Nat → Int32) (plf : Nat → Int32) (x : Int32) (t34 : Nat) (x34_4 : Int32) (x34_3 : Int32) : Int32 × Int32 := if ((nI (t34 + 1)) &&& ((taS plf x nt) ^^^ (-1))) = 0 then if (s_X3_lossOf ((s_X3_findLosses_2 nq tf qf lof wof nt).1) (nI (t34 + 1))) ≤ x34_4 then if ((s_X3_lossOf ((s_X3_findLosses_2 nq tf qf lof wof nt).1) (nI (t34 + 1))) + (feeS nl rf td (smS tf ((taS plf x nt) &&& ((nI (t34 + 1)) ^^^ (-1))) 1 nt) (tat 25 cf (x * 5 + 1)) (bcI ((taS plf x nt) &&& ((nI (t34 + 1)) ^^^ (-1)))) (tat 25 cf (x * 5 + 4)))) < x34_4 then (((s_X3_lossOf ((s_X3_findLosses_2 nq tf qf lof wof nt).1) (nI (t34 + 1))) + (feeS nl rf td (smS tf ((taS plf x nt) &&& ((nI (t34 + 1)) ^^^ (-1))) 1 nt) (tat 25 cf (x * 5 + 1)) (bcI ((taS plf x nt) &&& ((nI (t34 + 1)) ^^^ (-1)))) (tat 25 cf (x * 5 + 4)))), nI (t34 + 1)) else if ((s_X3_lossOf ((s_X3_findLosses_2 nq tf qf lof wof nt).1) (nI (t34 + 1))) + (feeS nl rf td (smS tf ((taS plf x nt) &&& ((nI (t34 + 1)) ^^^ (-1))) 1 nt) (tat 25 cf (x * 5 + 1)) (bcI ((taS plf x nt) &&& ((nI (t34 + 1)) ^^^ (-1)))) (tat 25 cf (x * 5 + 4)))) = x34_4 then if (s_X3_rowOf ((s_X3_findLosses_2 nq tf qf lof wof nt).2) x34_3) ≤ (s_X3_rowOf ((s_X3_findLosses_2 nq tf qf lof wof nt).2) (nI (t34 + 1))) then (x34_4, x34_3) else (((s_X3_lossOf ((s_X3_findLosses_2 nq tf qf lof wof nt).1) (nI (t34 + 1))) + (feeS nl rf td (smS tf ((taS plf x nt) &&& ((nI (t34 + 1)) ^^^ (-1))) 1 nt) (tat 25 cf (x * 5 + 1)) (bcI ((taS plf x nt) &&& ((nI (t34 + 1)) ^^^ (-1)))) (tat 25 cf (x * 5 + 4)))), nI (t34 + 1)) else (x34_4, x34_3) else (x34_4, x34_3) else (x34_4, x34_3)
def s_X3_leastFor_34 (nl : Nat) (nt : Nat) (nq : Nat) (td : Int32) (lof : Nat → Int32) (wof : Nat → Int32) (cf : Nat → Int32) (tf : Nat → Int32) (qf : Nat → Int32) (rf : Nat → Int32) (plf : Nat → Int32) (x : Int32) (z0 : Int32) (z1 : Int32) : Nat → Int32 × Int32
  | 0 => (z0, z1)
  | t + 1 => s_X3_leastFor_34s nl nt nq td lof wof cf tf qf rf plf x t ((s_X3_leastFor_34 nl nt nq td lof wof cf tf qf rf plf x z0 z1 t).1) ((s_X3_leastFor_34 nl nt nq td lof wof cf tf qf rf plf x z0 z1 t).2)
def s_X3_leastFor (nl : Nat) (nt : Nat) (nq : Nat) (td : Int32) (lof : Nat → Int32) (wof : Nat → Int32) (cf : Nat → Int32) (tf : Nat → Int32) (qf : Nat → Int32) (rf : Nat → Int32) (plf : Nat → Int32) (x : Int32) : Int32 := ((s_X3_leastFor_34 nl nt nq td lof wof cf tf qf rf plf x (feeS nl rf td (smS tf (taS plf x nt) 1 nt) (tat 25 cf (x * 5 + 1)) (bcI (taS plf x nt)) (tat 25 cf (x * 5 + 4))) 0 (4096 - 1)).1)
set_option maxHeartbeats 4000000 in
set_option maxRecDepth 100000 in
theorem c_X3_leastFor (l : Launch) (D : va_G) (cB cI cJ : ClassId) (ad : Nat → Nat) (n : Nat) (M : Nat → va_E) (hI : ipI ad n) (an g h nl nt nc nq : Nat) (tof fk ck op td hg : Int32) (faf lof wof hv cf tf qf rf vf sf plf : Nat → Int32) (x : Int32) (h_an : an < n) (h_an_1 : an + 1 < n) (h_an_2 : an + 2 < n) (h_an_3 : an + 3 < n) (h_an_4 : an + 4 < n) (h_an_5 : an + 5 < n) (h_an_6 : an + 6 < n) (h_g : g < n) (h_h : h < n) (h_h_3 : h + 3 < n) (h_h_4 : h + 4 < n) (h_h_5 : h + 5 < n) (h_h_6 : h + 6 < n) (h_h_9 : h + 9 < n) (h_h_10 : h + 10 < n) (h_h_11 : h + 11 < n) (h_h_12 : h + 12 < n) (h_h_13 : h + 13 < n) (h_h_14 : h + 14 < n) (h_h_15 : h + 15 < n) (h_g_1 : g + 1 < n) (h_g_2 : g + 2 < n) (h_h_7 : h + 7 < n) (h_h_8 : h + 8 < n) (m_an : M an = .inr (3, plansF ad an tof fk ck)) (m_an_1 : M (an + 1) = .inr (8, [.int 1, .ref (ad (an + 2))])) (m_an_2 : M (an + 2) = .inl (cI, 12, .inl faf)) (m_an_3 : M (an + 3) = .inr (8, [.int 1, .ref (ad (an + 4))])) (m_an_4 : M (an + 4) = .inl (cI, 12, .inl lof)) (m_an_5 : M (an + 5) = .inr (8, [.int 1, .ref (ad (an + 6))])) (m_an_6 : M (an + 6) = .inl (cI, 12, .inl wof)) (m_g : M g = .inr (7, standF ad g h op)) (m_h : M h = .inr (0, hallF ad h hv)) (m_h_3 : M (h + 3) = .inr (8, [.int 5, .ref (ad (h + 4))])) (m_h_4 : M (h + 4) = .inl (cI, 25, .inl cf)) (m_h_5 : M (h + 5) = .inr (8, [.int 7, .ref (ad (h + 6))])) (m_h_6 : M (h + 6) = .inl (cI, 84, .inl tf)) (m_h_9 : M (h + 9) = .inr (5, ruleF ad (h + 9) (nI nl) td hg)) (m_h_10 : M (h + 10) = .inr (8, [.int 1, .ref (ad (h + 9 + 2))])) (m_h_11 : M (h + 11) = .inl (cI, 700, .inl rf)) (m_h_12 : M (h + 12) = .inr (8, [.int 1, .ref (ad (h + 9 + 4))])) (m_h_13 : M (h + 13) = .inl (cI, 5, .inl vf)) (m_h_14 : M (h + 14) = .inr (8, [.int 1, .ref (ad (h + 9 + 6))])) (m_h_15 : M (h + 15) = .inl (cI, 31, .inl sf)) (m_g_1 : M (g + 1) = .inr (8, [.int 1, .ref (ad (g + 2))])) (m_g_2 : M (g + 2) = .inl (cI, 12, .inl plf)) (m_h_7 : M (h + 7) = .inr (8, [.int 2, .ref (ad (h + 8))])) (m_h_8 : M (h + 8) = .inl (cI, 12, .inl qf)) (h7 : hv 7 = nI nt) (hnt : nt ≤ 12) (h8 : hv 8 = nI nq) (hnq : nq ≤ 6) (hnl : nl ≤ 700) (hOK : ruleOK nl rf td) (hah : an + 12 < h ∨ h + 15 < an) (hag : an + 12 < g ∨ g + 2 < an) (hgh : g + 2 < h ∨ h + 15 < g) : cWi l D cB cI cJ ad n M yX3_leastFor wsX3_leastFor 5 112 [.ref (ad an), .ref (ad g), .int x] (fun r M' => ∃ (v0__ : Nat → Int32) (v1__ : Nat → Int32) (v2__ : Int32), r = s_X3_leastFor nl nt nq td lof wof cf tf qf rf plf x ∧ M' (an + 2) = .inl (cI, 12, .inl (s_X3_keepRow_2 ((s_X3_findLosses_2 nq tf qf lof wof nt).2) ((s_X3_leastFor_34 nl nt nq td lof wof cf tf qf rf plf x (feeS nl rf td (smS tf (taS plf x nt) 1 nt) (tat 25 cf (x * 5 + 1)) (bcI (taS plf x nt)) (tat 25 cf (x * 5 + 4))) 0 (4096 - 1)).2) faf 12)) ∧ M' (an + 4) = .inl (cI, 12, .inl ((s_X3_findLosses_2 nq tf qf lof wof nt).1)) ∧ M' (an + 6) = .inl (cI, 12, .inl ((s_X3_findLosses_2 nq tf qf lof wof nt).2)) ∧ M' an = .inr (3, plansF ad an (taS plf x nt) 1 ck) ∧ M' (h + 13) = .inl (cI, 5, .inl v0__) ∧ M' (h + 15) = .inl (cI, 31, .inl v1__) ∧ M' (h + 9) = .inr (5, ruleF ad (h + 9) (nI nl) td v2__) ∧ ∀ q : Nat, q ≠ an + 2 → q ≠ an + 4 → q ≠ an + 6 → q ≠ an → q ≠ h + 13 → q ≠ h + 15 → q ≠ h + 9 → M' q = M q) := by
  refine q_body (cc := cX3_leastFor) (maxL := 7) (ret := (some .int)) (by decide) rfl (Nat.le_of_ble_eq_true rfl) ?_
  intro p e s m args below meth c ls X hr hlocks hK hP hl
  obtain ⟨hx, hb, hml, hown, hts⟩ := id X
  have hS : va_S (ipA ad n) s.heap s.heap [] := va_S.rf
  have hl : lv_has ls 7 [(0, .ref (ad an)), (1, .ref (ad g)), (2, .int x)] := hl
  refine lv_aload_n hx hb dX3_leastFor_0 rfl (lv_at hl 0 rfl) ?_
  refine lv_aload_n hx hb dX3_leastFor_1 rfl (lv_at hl 1 rfl) ?_
  refine q_getN (v := .ref (ad h)) (fs := standF ad g h op) (T := TX7) (k := 0) (C := RX7) (N := 3) (ci := 7) X hK hP hK.1.2.2.1 rfl nX3_leastFor_46 (by decide) h_g m_g rfl dX3_leastFor_2 ?_
  refine q_wrVv (As := [.ref (ad h)]) (rest := []) (c_X3_findLosses l D cB cI cJ ad n M hI an h nt nq tof fk ck hv tf qf lof wof h_an h_an_3 h_an_4 h_an_5 h_an_6 h_h h_h_5 h_h_6 h_h_7 h_h_8 m_an m_an_3 m_an_4 m_an_5 m_an_6 m_h m_h_5 m_h_6 m_h_7 m_h_8 h7 hnt h8 hnq hah) X hK hP hS hl.1 rfl gX3_leastFor_X3_findLosses yd_X3_findLosses ⟨Nat.le_of_ble_eq_true rfl, Nat.le_of_ble_eq_true rfl⟩ h_an m_an (ci := 3) rfl rfl (Nat.le_of_ble_eq_true rfl) ⟨Nat.zero_le _, Nat.zero_le _⟩ dX3_leastFor_5 (fun M2 H locs hp1 hP hS => ?_)
  obtain ⟨g4, g5, fr6⟩ := hp1
  refine lv_aload_n hx hb dX3_leastFor_8 rfl (lv_at hl 0 rfl) ?_
  refine lv_aload_n hx hb dX3_leastFor_9 rfl (lv_at hl 1 rfl) ?_
  refine lv_iload_n hx hb dX3_leastFor_10 rfl (lv_at hl 2 rfl) ?_
  refine q_rdV (As := [.int x]) (rest := [.ref (ad an)]) (c_X7_thingsAt l D cB cI cJ ad n M2 g h nt op hv plf x h_g h_g_1 h_g_2 h_h ((fr6 g (by omega) (by omega)).trans m_g) ((fr6 (g + 1) (by omega) (by omega)).trans m_g_1) ((fr6 (g + 2) (by omega) (by omega)).trans m_g_2) ((fr6 h (by omega) (by omega)).trans m_h) h7 hnt) X hK hP hS hl.1 rfl gX3_leastFor_X7_thingsAt yd_X7_thingsAt ⟨Nat.le_of_ble_eq_true rfl, Nat.le_of_ble_eq_true rfl⟩ h_g ((fr6 g (by omega) (by omega)).trans m_g) (ci := 7) rfl rfl (Nat.le_of_ble_eq_true rfl) ⟨Nat.zero_le _, Nat.zero_le _⟩ dX3_leastFor_11 ?_
  refine q_put (fs := plansF ad an tof fk ck) (fs' := plansF ad an (taS plf x nt) fk ck) X hK hI hP hS fX3_leastFor_42 fw_3_1 h_an ((fr6 an (by omega) (by omega)).trans m_an) rfl rfl (Nat.le_of_ble_eq_true rfl) rfl dX3_leastFor_14 (fun H locs hP hS => ?_)
  refine lv_aload_n hx hb dX3_leastFor_17 rfl (lv_at hl 0 rfl) ?_
  refine lv_iconst (v := 1) hx hb dX3_leastFor_18 (by decide) ?_
  refine q_put (fs := plansF ad an (taS plf x nt) fk ck) (fs' := plansF ad an (taS plf x nt) 1 ck) X hK hI hP hS fX3_leastFor_35 fw_3_2 h_an (va_up_self M2 an (.inr (3, plansF ad an (taS plf x nt) fk ck))) rfl rfl (Nat.le_of_ble_eq_true rfl) rfl dX3_leastFor_19 (fun H locs hP hS => ?_)
  refine lv_iconst (v := 0) hx hb dX3_leastFor_22 (by decide) ?_
  refine lv_istore_n (lv' := [(3, .int 0), (0, .ref (ad an)), (1, .ref (ad g)), (2, .int x)]) hx hb dX3_leastFor_23 rfl hl (by decide) rfl (fun ls hl => ?_)
  refine lv_aload_n hx hb dX3_leastFor_24 rfl (lv_at hl 2 rfl) ?_
  refine lv_iload_n hx hb dX3_leastFor_25 rfl (lv_at hl 3 rfl) ?_
  refine q_wrVi (As := [.int x]) (rest := []) (c_X7_feeOf l D cB cI cJ ad n (va_up (va_up M2 an (.inr (3, plansF ad an (taS plf x nt) fk ck))) an (.inr (3, plansF ad an (taS plf x nt) 1 ck))) hI g h nl nt op td hg hv cf tf rf vf sf plf x h_g h_h h_h_3 h_h_4 h_h_5 h_h_6 h_h_9 h_h_10 h_h_11 h_h_12 h_h_13 h_h_14 h_h_15 h_g_1 h_g_2 ((va_up_ne (va_up M2 an (.inr (3, plansF ad an (taS plf x nt) fk ck))) (.inr (3, plansF ad an (taS plf x nt) 1 ck)) (show g ≠ an by omega)).trans ((va_up_ne M2 (.inr (3, plansF ad an (taS plf x nt) fk ck)) (show g ≠ an by omega)).trans ((fr6 g (by omega) (by omega)).trans m_g))) ((va_up_ne (va_up M2 an (.inr (3, plansF ad an (taS plf x nt) fk ck))) (.inr (3, plansF ad an (taS plf x nt) 1 ck)) (show h ≠ an by omega)).trans ((va_up_ne M2 (.inr (3, plansF ad an (taS plf x nt) fk ck)) (show h ≠ an by omega)).trans ((fr6 h (by omega) (by omega)).trans m_h))) ((va_up_ne (va_up M2 an (.inr (3, plansF ad an (taS plf x nt) fk ck))) (.inr (3, plansF ad an (taS plf x nt) 1 ck)) (show h + 3 ≠ an by omega)).trans ((va_up_ne M2 (.inr (3, plansF ad an (taS plf x nt) fk ck)) (show h + 3 ≠ an by omega)).trans ((fr6 (h + 3) (by omega) (by omega)).trans m_h_3))) ((va_up_ne (va_up M2 an (.inr (3, plansF ad an (taS plf x nt) fk ck))) (.inr (3, plansF ad an (taS plf x nt) 1 ck)) (show h + 4 ≠ an by omega)).trans ((va_up_ne M2 (.inr (3, plansF ad an (taS plf x nt) fk ck)) (show h + 4 ≠ an by omega)).trans ((fr6 (h + 4) (by omega) (by omega)).trans m_h_4))) ((va_up_ne (va_up M2 an (.inr (3, plansF ad an (taS plf x nt) fk ck))) (.inr (3, plansF ad an (taS plf x nt) 1 ck)) (show h + 5 ≠ an by omega)).trans ((va_up_ne M2 (.inr (3, plansF ad an (taS plf x nt) fk ck)) (show h + 5 ≠ an by omega)).trans ((fr6 (h + 5) (by omega) (by omega)).trans m_h_5))) ((va_up_ne (va_up M2 an (.inr (3, plansF ad an (taS plf x nt) fk ck))) (.inr (3, plansF ad an (taS plf x nt) 1 ck)) (show h + 6 ≠ an by omega)).trans ((va_up_ne M2 (.inr (3, plansF ad an (taS plf x nt) fk ck)) (show h + 6 ≠ an by omega)).trans ((fr6 (h + 6) (by omega) (by omega)).trans m_h_6))) ((va_up_ne (va_up M2 an (.inr (3, plansF ad an (taS plf x nt) fk ck))) (.inr (3, plansF ad an (taS plf x nt) 1 ck)) (show h + 9 ≠ an by omega)).trans ((va_up_ne M2 (.inr (3, plansF ad an (taS plf x nt) fk ck)) (show h + 9 ≠ an by omega)).trans ((fr6 (h + 9) (by omega) (by omega)).trans m_h_9))) ((va_up_ne (va_up M2 an (.inr (3, plansF ad an (taS plf x nt) fk ck))) (.inr (3, plansF ad an (taS plf x nt) 1 ck)) (show h + 10 ≠ an by omega)).trans ((va_up_ne M2 (.inr (3, plansF ad an (taS plf x nt) fk ck)) (show h + 10 ≠ an by omega)).trans ((fr6 (h + 10) (by omega) (by omega)).trans m_h_10))) ((va_up_ne (va_up M2 an (.inr (3, plansF ad an (taS plf x nt) fk ck))) (.inr (3, plansF ad an (taS plf x nt) 1 ck)) (show h + 11 ≠ an by omega)).trans ((va_up_ne M2 (.inr (3, plansF ad an (taS plf x nt) fk ck)) (show h + 11 ≠ an by omega)).trans ((fr6 (h + 11) (by omega) (by omega)).trans m_h_11))) ((va_up_ne (va_up M2 an (.inr (3, plansF ad an (taS plf x nt) fk ck))) (.inr (3, plansF ad an (taS plf x nt) 1 ck)) (show h + 12 ≠ an by omega)).trans ((va_up_ne M2 (.inr (3, plansF ad an (taS plf x nt) fk ck)) (show h + 12 ≠ an by omega)).trans ((fr6 (h + 12) (by omega) (by omega)).trans m_h_12))) ((va_up_ne (va_up M2 an (.inr (3, plansF ad an (taS plf x nt) fk ck))) (.inr (3, plansF ad an (taS plf x nt) 1 ck)) (show h + 13 ≠ an by omega)).trans ((va_up_ne M2 (.inr (3, plansF ad an (taS plf x nt) fk ck)) (show h + 13 ≠ an by omega)).trans ((fr6 (h + 13) (by omega) (by omega)).trans m_h_13))) ((va_up_ne (va_up M2 an (.inr (3, plansF ad an (taS plf x nt) fk ck))) (.inr (3, plansF ad an (taS plf x nt) 1 ck)) (show h + 14 ≠ an by omega)).trans ((va_up_ne M2 (.inr (3, plansF ad an (taS plf x nt) fk ck)) (show h + 14 ≠ an by omega)).trans ((fr6 (h + 14) (by omega) (by omega)).trans m_h_14))) ((va_up_ne (va_up M2 an (.inr (3, plansF ad an (taS plf x nt) fk ck))) (.inr (3, plansF ad an (taS plf x nt) 1 ck)) (show h + 15 ≠ an by omega)).trans ((va_up_ne M2 (.inr (3, plansF ad an (taS plf x nt) fk ck)) (show h + 15 ≠ an by omega)).trans ((fr6 (h + 15) (by omega) (by omega)).trans m_h_15))) ((va_up_ne (va_up M2 an (.inr (3, plansF ad an (taS plf x nt) fk ck))) (.inr (3, plansF ad an (taS plf x nt) 1 ck)) (show g + 1 ≠ an by omega)).trans ((va_up_ne M2 (.inr (3, plansF ad an (taS plf x nt) fk ck)) (show g + 1 ≠ an by omega)).trans ((fr6 (g + 1) (by omega) (by omega)).trans m_g_1))) ((va_up_ne (va_up M2 an (.inr (3, plansF ad an (taS plf x nt) fk ck))) (.inr (3, plansF ad an (taS plf x nt) 1 ck)) (show g + 2 ≠ an by omega)).trans ((va_up_ne M2 (.inr (3, plansF ad an (taS plf x nt) fk ck)) (show g + 2 ≠ an by omega)).trans ((fr6 (g + 2) (by omega) (by omega)).trans m_g_2))) h7 hnt hnl hOK) X hK hP hS hl.1 rfl gX3_leastFor_X7_feeOf yd_X7_feeOf ⟨Nat.le_of_ble_eq_true rfl, Nat.le_of_ble_eq_true rfl⟩ h_g ((va_up_ne (va_up M2 an (.inr (3, plansF ad an (taS plf x nt) fk ck))) (.inr (3, plansF ad an (taS plf x nt) 1 ck)) (show g ≠ an by omega)).trans ((va_up_ne M2 (.inr (3, plansF ad an (taS plf x nt) fk ck)) (show g ≠ an by omega)).trans ((fr6 g (by omega) (by omega)).trans m_g))) (ci := 7) rfl rfl (Nat.le_of_ble_eq_true rfl) ⟨Nat.zero_le _, Nat.zero_le _⟩ dX3_leastFor_26 (fun r13 M12 H locs hp11 hP hS => ?_)
  obtain ⟨vf2_14, sf2_15, hg2_16, rfl, g17, g18, g19, fr20⟩ := hp11
  refine lv_istore (lv' := [(4, .int (feeS nl rf td (smS tf (taS plf x nt) 1 nt) (tat 25 cf (x * 5 + 1)) (bcI (taS plf x nt)) (tat 25 cf (x * 5 + 4)))), (3, .int 0), (0, .ref (ad an)), (1, .ref (ad g)), (2, .int x)]) hx hb dX3_leastFor_29 hl (by decide) rfl (fun ls hl => ?_)
  refine lv_iconst (v := 1) hx hb dX3_leastFor_31 (by decide) ?_
  refine lv_istore (lv' := [(5, .int 1), (4, .int (feeS nl rf td (smS tf (taS plf x nt) 1 nt) (tat 25 cf (x * 5 + 1)) (bcI (taS plf x nt)) (tat 25 cf (x * 5 + 4)))), (3, .int 0), (0, .ref (ad an)), (1, .ref (ad g)), (2, .int x)]) hx hb dX3_leastFor_32 hl (by decide) rfl (fun ls hl => ?_)
  have loop_34 : ∀ (fuel : Nat) (t34 : Nat) (x34_4 : Int32) (x34_3 : Int32) (y34_0 : Nat → Int32) (y34_1 : Nat → Int32) (y34_2 : Int32), 4096 - (t34 + 1) < fuel → t34 + 1 ≤ 4096 → x34_4 = (s_X3_leastFor_34 nl nt nq td lof wof cf tf qf rf plf x (feeS nl rf td (smS tf (taS plf x nt) 1 nt) (tat 25 cf (x * 5 + 1)) (bcI (taS plf x nt)) (tat 25 cf (x * 5 + 4))) 0 t34).1 → x34_3 = (s_X3_leastFor_34 nl nt nq td lof wof cf tf qf rf plf x (feeS nl rf td (smS tf (taS plf x nt) 1 nt) (tat 25 cf (x * 5 + 1)) (bcI (taS plf x nt)) (tat 25 cf (x * 5 + 4))) 0 t34).2 → ∀ (ML34 : Nat → va_E) (H : Heap) (locs : List Loc), ML34 (h + 13) = .inl (cI, 5, .inl y34_0) → ML34 (h + 15) = .inl (cI, 31, .inl y34_1) → ML34 (h + 9) = .inr (5, ruleF ad (h + 9) (nI nl) td y34_2) → (∀ q : Nat, q ≠ h + 13 → q ≠ h + 15 → q ≠ h + 9 → ML34 q = M12 q) → va_P D vwCl (ip ad n ML34) H → va_S (ipA ad n) s.heap H locs → ∀ (ls : Array Slot), lv_has ls 7 [(5, .int (nI (t34 + 1))), (4, .int x34_4), (3, .int x34_3), (0, .ref (ad an)), (1, .ref (ad g)), (2, .int x)] → W p l e (rmOf 5 112) s m args below meth c H locs 0 0 (MQ below (va_Qi (fun r M' => ∃ (v0__ : Nat → Int32) (v1__ : Nat → Int32) (v2__ : Int32), r = s_X3_leastFor nl nt nq td lof wof cf tf qf rf plf x ∧ M' (an + 2) = .inl (cI, 12, .inl (s_X3_keepRow_2 ((s_X3_findLosses_2 nq tf qf lof wof nt).2) ((s_X3_leastFor_34 nl nt nq td lof wof cf tf qf rf plf x (feeS nl rf td (smS tf (taS plf x nt) 1 nt) (tat 25 cf (x * 5 + 1)) (bcI (taS plf x nt)) (tat 25 cf (x * 5 + 4))) 0 (4096 - 1)).2) faf 12)) ∧ M' (an + 4) = .inl (cI, 12, .inl ((s_X3_findLosses_2 nq tf qf lof wof nt).1)) ∧ M' (an + 6) = .inl (cI, 12, .inl ((s_X3_findLosses_2 nq tf qf lof wof nt).2)) ∧ M' an = .inr (3, plansF ad an (taS plf x nt) 1 ck) ∧ M' (h + 13) = .inl (cI, 5, .inl v0__) ∧ M' (h + 15) = .inl (cI, 31, .inl v1__) ∧ M' (h + 9) = .inr (5, ruleF ad (h + 9) (nI nl) td v2__) ∧ ∀ q : Nat, q ≠ an + 2 → q ≠ an + 4 → q ≠ an + 6 → q ≠ an → q ≠ h + 13 → q ≠ h + 15 → q ≠ h + 9 → M' q = M q) (fun M' t => va_P D vwCl (ip ad n M') t.heap) (ipA ad n)) args s 0 0 (ipA ad n)) (F0 m 34 ls []) := by
    intro fuel
    induction fuel with
    | zero =>
      intro t34 x34_4 x34_3 y34_0 y34_1 y34_2 hz
      exact absurd hz (Nat.not_lt_zero _)
    | succ fuel ih_34 =>
      intro t34 x34_4 x34_3 y34_0 y34_1 y34_2 hz_34 h_t34 e_x34_4 e_x34_3 ML34 H locs mL34_0 mL34_1 mL34_2 fL34 hP hS ls hl
      skip
      refine lv_iload hx hb dX3_leastFor_34 (lv_at hl 0 rfl) ?_
      refine lv_sipush (v := 4096) hx hb dX3_leastFor_36 (by decide) ?_
      refine lv_icmp_ge (tgt := 132) hx hb dX3_leastFor_39 (by decide) (fun c_39 => ?_) (fun c_39 => ?_)
      · skip
        have h9_34 : t34 + 1 = 4096 := eq_of_le (t := t34 + 1) (k := 4096) c_39 (by omega) h_t34
        have h8_34 : t34 = (4096 - 1) := by omega
        subst h8_34
        subst e_x34_4
        subst e_x34_3
        refine lv_aload_n hx hb dX3_leastFor_132 rfl (lv_at hl 3 rfl) ?_
        refine lv_iload_n hx hb dX3_leastFor_133 rfl (lv_at hl 2 rfl) ?_
        refine q_wrVv (As := [.int ((s_X3_leastFor_34 nl nt nq td lof wof cf tf qf rf plf x (feeS nl rf td (smS tf (taS plf x nt) 1 nt) (tat 25 cf (x * 5 + 1)) (bcI (taS plf x nt)) (tat 25 cf (x * 5 + 4))) 0 (4096 - 1)).2)]) (rest := []) (c_X3_keepRow l D cB cI cJ ad n ML34 hI an (taS plf x nt) 1 ck faf ((s_X3_findLosses_2 nq tf qf lof wof nt).2) ((s_X3_leastFor_34 nl nt nq td lof wof cf tf qf rf plf x (feeS nl rf td (smS tf (taS plf x nt) 1 nt) (tat 25 cf (x * 5 + 1)) (bcI (taS plf x nt)) (tat 25 cf (x * 5 + 4))) 0 (4096 - 1)).2) h_an h_an_1 h_an_2 h_an_5 h_an_6 ((fL34 an (by omega) (by omega) (by omega)).trans ((fr20 an (by omega) (by omega) (by omega)).trans (va_up_self (va_up M2 an (.inr (3, plansF ad an (taS plf x nt) fk ck))) an (.inr (3, plansF ad an (taS plf x nt) 1 ck))))) ((fL34 (an + 1) (by omega) (by omega) (by omega)).trans ((fr20 (an + 1) (by omega) (by omega) (by omega)).trans ((va_up_ne (va_up M2 an (.inr (3, plansF ad an (taS plf x nt) fk ck))) (.inr (3, plansF ad an (taS plf x nt) 1 ck)) (show an + 1 ≠ an by omega)).trans ((va_up_ne M2 (.inr (3, plansF ad an (taS plf x nt) fk ck)) (show an + 1 ≠ an by omega)).trans ((fr6 (an + 1) (by omega) (by omega)).trans m_an_1))))) ((fL34 (an + 2) (by omega) (by omega) (by omega)).trans ((fr20 (an + 2) (by omega) (by omega) (by omega)).trans ((va_up_ne (va_up M2 an (.inr (3, plansF ad an (taS plf x nt) fk ck))) (.inr (3, plansF ad an (taS plf x nt) 1 ck)) (show an + 2 ≠ an by omega)).trans ((va_up_ne M2 (.inr (3, plansF ad an (taS plf x nt) fk ck)) (show an + 2 ≠ an by omega)).trans ((fr6 (an + 2) (by omega) (by omega)).trans m_an_2))))) ((fL34 (an + 5) (by omega) (by omega) (by omega)).trans ((fr20 (an + 5) (by omega) (by omega) (by omega)).trans ((va_up_ne (va_up M2 an (.inr (3, plansF ad an (taS plf x nt) fk ck))) (.inr (3, plansF ad an (taS plf x nt) 1 ck)) (show an + 5 ≠ an by omega)).trans ((va_up_ne M2 (.inr (3, plansF ad an (taS plf x nt) fk ck)) (show an + 5 ≠ an by omega)).trans ((fr6 (an + 5) (by omega) (by omega)).trans m_an_5))))) ((fL34 (an + 6) (by omega) (by omega) (by omega)).trans ((fr20 (an + 6) (by omega) (by omega) (by omega)).trans ((va_up_ne (va_up M2 an (.inr (3, plansF ad an (taS plf x nt) fk ck))) (.inr (3, plansF ad an (taS plf x nt) 1 ck)) (show an + 6 ≠ an by omega)).trans ((va_up_ne M2 (.inr (3, plansF ad an (taS plf x nt) fk ck)) (show an + 6 ≠ an by omega)).trans g5)))) ) X hK hP hS hl.1 rfl gX3_leastFor_X3_keepRow yd_X3_keepRow ⟨Nat.le_of_ble_eq_true rfl, Nat.le_of_ble_eq_true rfl⟩ h_an ((fL34 an (by omega) (by omega) (by omega)).trans ((fr20 an (by omega) (by omega) (by omega)).trans (va_up_self (va_up M2 an (.inr (3, plansF ad an (taS plf x nt) fk ck))) an (.inr (3, plansF ad an (taS plf x nt) 1 ck))))) (ci := 3) rfl rfl (Nat.le_of_ble_eq_true rfl) ⟨Nat.zero_le _, Nat.zero_le _⟩ dX3_leastFor_134 (fun M22 H locs hp21 hP hS => ?_)
        obtain ⟨g24, fr25⟩ := hp21
        refine lv_iload hx hb dX3_leastFor_137 (lv_at hl 1 rfl) ?_
        exact q_wzret X hr hlocks hP hS (rfl) ⟨_, _, _, (by rfl), g24, ((fr25 (an + 4) (by omega)).trans ((fL34 (an + 4) (by omega) (by omega) (by omega)).trans ((fr20 (an + 4) (by omega) (by omega) (by omega)).trans ((va_up_ne (va_up M2 an (.inr (3, plansF ad an (taS plf x nt) fk ck))) (.inr (3, plansF ad an (taS plf x nt) 1 ck)) (show an + 4 ≠ an by omega)).trans ((va_up_ne M2 (.inr (3, plansF ad an (taS plf x nt) fk ck)) (show an + 4 ≠ an by omega)).trans g4))))), ((fr25 (an + 6) (by omega)).trans ((fL34 (an + 6) (by omega) (by omega) (by omega)).trans ((fr20 (an + 6) (by omega) (by omega) (by omega)).trans ((va_up_ne (va_up M2 an (.inr (3, plansF ad an (taS plf x nt) fk ck))) (.inr (3, plansF ad an (taS plf x nt) 1 ck)) (show an + 6 ≠ an by omega)).trans ((va_up_ne M2 (.inr (3, plansF ad an (taS plf x nt) fk ck)) (show an + 6 ≠ an by omega)).trans g5))))), ((fr25 an (by omega)).trans ((fL34 an (by omega) (by omega) (by omega)).trans ((fr20 an (by omega) (by omega) (by omega)).trans (va_up_self (va_up M2 an (.inr (3, plansF ad an (taS plf x nt) fk ck))) an (.inr (3, plansF ad an (taS plf x nt) 1 ck)))))), ((fr25 (h + 13) (by omega)).trans mL34_0), ((fr25 (h + 15) (by omega)).trans mL34_1), ((fr25 (h + 9) (by omega)).trans mL34_2), (fun q n0 n1 n2 n3 n4 n5 n6 => ((fr25 q n0).trans ((fL34 q n4 n5 n6).trans ((fr20 q n4 n5 n6).trans ((va_up_ne _ _ n3).trans ((va_up_ne _ _ n3).trans (fr6 q n1 n2)))))))⟩ dX3_leastFor_139
      · skip
        have h9_34 : t34 + 1 < 4096 := lt_of_nlt (t := t34 + 1) (k := 4096) c_39 (by omega) h_t34
        refine lv_iload hx hb dX3_leastFor_42 (lv_at hl 0 rfl) ?_
        refine lv_aload_n hx hb dX3_leastFor_44 rfl (lv_at hl 3 rfl) ?_
        refine q_get (v := .int (taS plf x nt)) (fs := plansF ad an (taS plf x nt) 1 ck) X hK hP fX3_leastFor_42 h_an ((fL34 an (by omega) (by omega) (by omega)).trans ((fr20 an (by omega) (by omega) (by omega)).trans (va_up_self (va_up M2 an (.inr (3, plansF ad an (taS plf x nt) fk ck))) an (.inr (3, plansF ad an (taS plf x nt) 1 ck))))) rfl dX3_leastFor_45 ?_
        refine lv_iconst (v := (-1)) hx hb dX3_leastFor_48 (by decide) ?_
        refine lv_ixor hx hb dX3_leastFor_49 ?_
        refine lv_iand hx hb dX3_leastFor_50 ?_
        refine lv_if_ne (tgt := 126) hx hb dX3_leastFor_51 (by decide) (fun c_51 => ?_) (fun c_51 => ?_)
        · skip
          refine lv_iinc (v := ((nI (t34 + 1)) + 1)) (lv' := [(5, .int ((nI (t34 + 1)) + 1)), (4, .int x34_4), (3, .int x34_3), (0, .ref (ad an)), (1, .ref (ad g)), (2, .int x)]) hx hb dX3_leastFor_126 hl (k := 0) rfl rfl (by decide) rfl (fun ls hl => ?_)
          refine lv_goto (tgt := 34) hx hb dX3_leastFor_129 (by decide) ?_
          exact ih_34 (t34 + 1) x34_4 x34_3 y34_0 y34_1 y34_2 (by omega) (by omega) (by rw [s_X3_leastFor_34, ← e_x34_4, ← e_x34_3, s_X3_leastFor_34s, if_neg c_51]) (by rw [s_X3_leastFor_34, ← e_x34_4, ← e_x34_3, s_X3_leastFor_34s, if_neg c_51]) _ _ _ mL34_0 mL34_1 mL34_2 (fun q n0 n1 n2 => (fL34 q n0 n1 n2)) hP hS ls (by rw [(show nI (t34 + 1 + 1) = nI (t34 + 1) + 1 by rw [(show t34 + 1 + 1 = t34 + 1 + 1 by omega)]; exact nI_succ _)]; exact lv_sub hl [0, 1, 2, 3, 4, 5] rfl)
        · skip
          refine lv_aload_n hx hb dX3_leastFor_54 rfl (lv_at hl 3 rfl) ?_
          refine lv_iload hx hb dX3_leastFor_55 (lv_at hl 0 rfl) ?_
          refine q_rdV (As := [.int (nI (t34 + 1))]) (rest := []) (c_X3_lossOf l D cB cI cJ ad n ML34 an (taS plf x nt) 1 ck ((s_X3_findLosses_2 nq tf qf lof wof nt).1) (nI (t34 + 1)) h_an h_an_3 h_an_4 ((fL34 an (by omega) (by omega) (by omega)).trans ((fr20 an (by omega) (by omega) (by omega)).trans (va_up_self (va_up M2 an (.inr (3, plansF ad an (taS plf x nt) fk ck))) an (.inr (3, plansF ad an (taS plf x nt) 1 ck))))) ((fL34 (an + 3) (by omega) (by omega) (by omega)).trans ((fr20 (an + 3) (by omega) (by omega) (by omega)).trans ((va_up_ne (va_up M2 an (.inr (3, plansF ad an (taS plf x nt) fk ck))) (.inr (3, plansF ad an (taS plf x nt) 1 ck)) (show an + 3 ≠ an by omega)).trans ((va_up_ne M2 (.inr (3, plansF ad an (taS plf x nt) fk ck)) (show an + 3 ≠ an by omega)).trans ((fr6 (an + 3) (by omega) (by omega)).trans m_an_3))))) ((fL34 (an + 4) (by omega) (by omega) (by omega)).trans ((fr20 (an + 4) (by omega) (by omega) (by omega)).trans ((va_up_ne (va_up M2 an (.inr (3, plansF ad an (taS plf x nt) fk ck))) (.inr (3, plansF ad an (taS plf x nt) 1 ck)) (show an + 4 ≠ an by omega)).trans ((va_up_ne M2 (.inr (3, plansF ad an (taS plf x nt) fk ck)) (show an + 4 ≠ an by omega)).trans g4)))) ) X hK hP hS hl.1 rfl gX3_leastFor_X3_lossOf yd_X3_lossOf ⟨Nat.le_of_ble_eq_true rfl, Nat.le_of_ble_eq_true rfl⟩ h_an ((fL34 an (by omega) (by omega) (by omega)).trans ((fr20 an (by omega) (by omega) (by omega)).trans (va_up_self (va_up M2 an (.inr (3, plansF ad an (taS plf x nt) fk ck))) an (.inr (3, plansF ad an (taS plf x nt) 1 ck))))) (ci := 3) rfl rfl (Nat.le_of_ble_eq_true rfl) ⟨Nat.zero_le _, Nat.zero_le _⟩ dX3_leastFor_57 ?_
          refine lv_iload hx hb dX3_leastFor_60 (lv_at hl 1 rfl) ?_
          refine lv_icmp_le (tgt := 68) hx hb dX3_leastFor_62 (by decide) (fun c_62 => ?_) (fun c_62 => ?_)
          · skip
            refine lv_aload_n hx hb dX3_leastFor_68 rfl (lv_at hl 3 rfl) ?_
            refine lv_iload hx hb dX3_leastFor_69 (lv_at hl 0 rfl) ?_
            refine q_rdV (As := [.int (nI (t34 + 1))]) (rest := []) (c_X3_lossOf l D cB cI cJ ad n ML34 an (taS plf x nt) 1 ck ((s_X3_findLosses_2 nq tf qf lof wof nt).1) (nI (t34 + 1)) h_an h_an_3 h_an_4 ((fL34 an (by omega) (by omega) (by omega)).trans ((fr20 an (by omega) (by omega) (by omega)).trans (va_up_self (va_up M2 an (.inr (3, plansF ad an (taS plf x nt) fk ck))) an (.inr (3, plansF ad an (taS plf x nt) 1 ck))))) ((fL34 (an + 3) (by omega) (by omega) (by omega)).trans ((fr20 (an + 3) (by omega) (by omega) (by omega)).trans ((va_up_ne (va_up M2 an (.inr (3, plansF ad an (taS plf x nt) fk ck))) (.inr (3, plansF ad an (taS plf x nt) 1 ck)) (show an + 3 ≠ an by omega)).trans ((va_up_ne M2 (.inr (3, plansF ad an (taS plf x nt) fk ck)) (show an + 3 ≠ an by omega)).trans ((fr6 (an + 3) (by omega) (by omega)).trans m_an_3))))) ((fL34 (an + 4) (by omega) (by omega) (by omega)).trans ((fr20 (an + 4) (by omega) (by omega) (by omega)).trans ((va_up_ne (va_up M2 an (.inr (3, plansF ad an (taS plf x nt) fk ck))) (.inr (3, plansF ad an (taS plf x nt) 1 ck)) (show an + 4 ≠ an by omega)).trans ((va_up_ne M2 (.inr (3, plansF ad an (taS plf x nt) fk ck)) (show an + 4 ≠ an by omega)).trans g4)))) ) X hK hP hS hl.1 rfl gX3_leastFor_X3_lossOf yd_X3_lossOf ⟨Nat.le_of_ble_eq_true rfl, Nat.le_of_ble_eq_true rfl⟩ h_an ((fL34 an (by omega) (by omega) (by omega)).trans ((fr20 an (by omega) (by omega) (by omega)).trans (va_up_self (va_up M2 an (.inr (3, plansF ad an (taS plf x nt) fk ck))) an (.inr (3, plansF ad an (taS plf x nt) 1 ck))))) (ci := 3) rfl rfl (Nat.le_of_ble_eq_true rfl) ⟨Nat.zero_le _, Nat.zero_le _⟩ dX3_leastFor_71 ?_
            refine lv_aload_n hx hb dX3_leastFor_74 rfl (lv_at hl 4 rfl) ?_
            refine lv_iload_n hx hb dX3_leastFor_75 rfl (lv_at hl 5 rfl) ?_
            refine lv_aload_n hx hb dX3_leastFor_76 rfl (lv_at hl 3 rfl) ?_
            refine q_get (v := .int (taS plf x nt)) (fs := plansF ad an (taS plf x nt) 1 ck) X hK hP fX3_leastFor_42 h_an ((fL34 an (by omega) (by omega) (by omega)).trans ((fr20 an (by omega) (by omega) (by omega)).trans (va_up_self (va_up M2 an (.inr (3, plansF ad an (taS plf x nt) fk ck))) an (.inr (3, plansF ad an (taS plf x nt) 1 ck))))) rfl dX3_leastFor_77 ?_
            refine lv_iload hx hb dX3_leastFor_80 (lv_at hl 0 rfl) ?_
            refine lv_iconst (v := (-1)) hx hb dX3_leastFor_82 (by decide) ?_
            refine lv_ixor hx hb dX3_leastFor_83 ?_
            refine lv_iand hx hb dX3_leastFor_84 ?_
            refine q_wrVi (As := [.int x, .int ((taS plf x nt) &&& ((nI (t34 + 1)) ^^^ (-1)))]) (rest := [.int (s_X3_lossOf ((s_X3_findLosses_2 nq tf qf lof wof nt).1) (nI (t34 + 1)))]) (c_X7_feeWith l D cB cI cJ ad n ML34 hI g h nl nt op td y34_2 hv cf tf rf y34_0 y34_1 x ((taS plf x nt) &&& ((nI (t34 + 1)) ^^^ (-1))) h_g h_h h_h_3 h_h_4 h_h_5 h_h_6 h_h_9 h_h_10 h_h_11 h_h_12 h_h_13 h_h_14 h_h_15 ((fL34 g (by omega) (by omega) (by omega)).trans ((fr20 g (by omega) (by omega) (by omega)).trans ((va_up_ne (va_up M2 an (.inr (3, plansF ad an (taS plf x nt) fk ck))) (.inr (3, plansF ad an (taS plf x nt) 1 ck)) (show g ≠ an by omega)).trans ((va_up_ne M2 (.inr (3, plansF ad an (taS plf x nt) fk ck)) (show g ≠ an by omega)).trans ((fr6 g (by omega) (by omega)).trans m_g))))) ((fL34 h (by omega) (by omega) (by omega)).trans ((fr20 h (by omega) (by omega) (by omega)).trans ((va_up_ne (va_up M2 an (.inr (3, plansF ad an (taS plf x nt) fk ck))) (.inr (3, plansF ad an (taS plf x nt) 1 ck)) (show h ≠ an by omega)).trans ((va_up_ne M2 (.inr (3, plansF ad an (taS plf x nt) fk ck)) (show h ≠ an by omega)).trans ((fr6 h (by omega) (by omega)).trans m_h))))) ((fL34 (h + 3) (by omega) (by omega) (by omega)).trans ((fr20 (h + 3) (by omega) (by omega) (by omega)).trans ((va_up_ne (va_up M2 an (.inr (3, plansF ad an (taS plf x nt) fk ck))) (.inr (3, plansF ad an (taS plf x nt) 1 ck)) (show h + 3 ≠ an by omega)).trans ((va_up_ne M2 (.inr (3, plansF ad an (taS plf x nt) fk ck)) (show h + 3 ≠ an by omega)).trans ((fr6 (h + 3) (by omega) (by omega)).trans m_h_3))))) ((fL34 (h + 4) (by omega) (by omega) (by omega)).trans ((fr20 (h + 4) (by omega) (by omega) (by omega)).trans ((va_up_ne (va_up M2 an (.inr (3, plansF ad an (taS plf x nt) fk ck))) (.inr (3, plansF ad an (taS plf x nt) 1 ck)) (show h + 4 ≠ an by omega)).trans ((va_up_ne M2 (.inr (3, plansF ad an (taS plf x nt) fk ck)) (show h + 4 ≠ an by omega)).trans ((fr6 (h + 4) (by omega) (by omega)).trans m_h_4))))) ((fL34 (h + 5) (by omega) (by omega) (by omega)).trans ((fr20 (h + 5) (by omega) (by omega) (by omega)).trans ((va_up_ne (va_up M2 an (.inr (3, plansF ad an (taS plf x nt) fk ck))) (.inr (3, plansF ad an (taS plf x nt) 1 ck)) (show h + 5 ≠ an by omega)).trans ((va_up_ne M2 (.inr (3, plansF ad an (taS plf x nt) fk ck)) (show h + 5 ≠ an by omega)).trans ((fr6 (h + 5) (by omega) (by omega)).trans m_h_5))))) ((fL34 (h + 6) (by omega) (by omega) (by omega)).trans ((fr20 (h + 6) (by omega) (by omega) (by omega)).trans ((va_up_ne (va_up M2 an (.inr (3, plansF ad an (taS plf x nt) fk ck))) (.inr (3, plansF ad an (taS plf x nt) 1 ck)) (show h + 6 ≠ an by omega)).trans ((va_up_ne M2 (.inr (3, plansF ad an (taS plf x nt) fk ck)) (show h + 6 ≠ an by omega)).trans ((fr6 (h + 6) (by omega) (by omega)).trans m_h_6))))) mL34_2 ((fL34 (h + 10) (by omega) (by omega) (by omega)).trans ((fr20 (h + 10) (by omega) (by omega) (by omega)).trans ((va_up_ne (va_up M2 an (.inr (3, plansF ad an (taS plf x nt) fk ck))) (.inr (3, plansF ad an (taS plf x nt) 1 ck)) (show h + 10 ≠ an by omega)).trans ((va_up_ne M2 (.inr (3, plansF ad an (taS plf x nt) fk ck)) (show h + 10 ≠ an by omega)).trans ((fr6 (h + 10) (by omega) (by omega)).trans m_h_10))))) ((fL34 (h + 11) (by omega) (by omega) (by omega)).trans ((fr20 (h + 11) (by omega) (by omega) (by omega)).trans ((va_up_ne (va_up M2 an (.inr (3, plansF ad an (taS plf x nt) fk ck))) (.inr (3, plansF ad an (taS plf x nt) 1 ck)) (show h + 11 ≠ an by omega)).trans ((va_up_ne M2 (.inr (3, plansF ad an (taS plf x nt) fk ck)) (show h + 11 ≠ an by omega)).trans ((fr6 (h + 11) (by omega) (by omega)).trans m_h_11))))) ((fL34 (h + 12) (by omega) (by omega) (by omega)).trans ((fr20 (h + 12) (by omega) (by omega) (by omega)).trans ((va_up_ne (va_up M2 an (.inr (3, plansF ad an (taS plf x nt) fk ck))) (.inr (3, plansF ad an (taS plf x nt) 1 ck)) (show h + 12 ≠ an by omega)).trans ((va_up_ne M2 (.inr (3, plansF ad an (taS plf x nt) fk ck)) (show h + 12 ≠ an by omega)).trans ((fr6 (h + 12) (by omega) (by omega)).trans m_h_12))))) mL34_0 ((fL34 (h + 14) (by omega) (by omega) (by omega)).trans ((fr20 (h + 14) (by omega) (by omega) (by omega)).trans ((va_up_ne (va_up M2 an (.inr (3, plansF ad an (taS plf x nt) fk ck))) (.inr (3, plansF ad an (taS plf x nt) 1 ck)) (show h + 14 ≠ an by omega)).trans ((va_up_ne M2 (.inr (3, plansF ad an (taS plf x nt) fk ck)) (show h + 14 ≠ an by omega)).trans ((fr6 (h + 14) (by omega) (by omega)).trans m_h_14))))) mL34_1 h7 hnt hnl hOK) X hK hP hS hl.1 rfl gX3_leastFor_X7_feeWith yd_X7_feeWith ⟨Nat.le_of_ble_eq_true rfl, Nat.le_of_ble_eq_true rfl⟩ h_g ((fL34 g (by omega) (by omega) (by omega)).trans ((fr20 g (by omega) (by omega) (by omega)).trans ((va_up_ne (va_up M2 an (.inr (3, plansF ad an (taS plf x nt) fk ck))) (.inr (3, plansF ad an (taS plf x nt) 1 ck)) (show g ≠ an by omega)).trans ((va_up_ne M2 (.inr (3, plansF ad an (taS plf x nt) fk ck)) (show g ≠ an by omega)).trans ((fr6 g (by omega) (by omega)).trans m_g))))) (ci := 7) rfl rfl (Nat.le_of_ble_eq_true rfl) ⟨Nat.zero_le _, Nat.zero_le _⟩ dX3_leastFor_85 (fun r28 M27 H locs hp26 hP hS => ?_)
            obtain ⟨vf2_29, sf2_30, hg2_31, rfl, g32, g33, g34, fr35⟩ := hp26
            refine lv_iadd hx hb dX3_leastFor_88 ?_
            refine lv_istore (lv' := [(6, .int ((s_X3_lossOf ((s_X3_findLosses_2 nq tf qf lof wof nt).1) (nI (t34 + 1))) + (feeS nl rf td (smS tf ((taS plf x nt) &&& ((nI (t34 + 1)) ^^^ (-1))) 1 nt) (tat 25 cf (x * 5 + 1)) (bcI ((taS plf x nt) &&& ((nI (t34 + 1)) ^^^ (-1)))) (tat 25 cf (x * 5 + 4))))), (5, .int (nI (t34 + 1))), (4, .int x34_4), (3, .int x34_3), (0, .ref (ad an)), (1, .ref (ad g)), (2, .int x)]) hx hb dX3_leastFor_89 hl (by decide) rfl (fun ls hl => ?_)
            refine lv_iload hx hb dX3_leastFor_91 (lv_at hl 0 rfl) ?_
            refine lv_iload hx hb dX3_leastFor_93 (lv_at hl 2 rfl) ?_
            refine lv_icmp_lt (tgt := 119) hx hb dX3_leastFor_95 (by decide) (fun c_95 => ?_) (fun c_95 => ?_)
            · skip
              refine lv_iload hx hb dX3_leastFor_119 (lv_at hl 0 rfl) ?_
              refine lv_istore (lv' := [(4, .int ((s_X3_lossOf ((s_X3_findLosses_2 nq tf qf lof wof nt).1) (nI (t34 + 1))) + (feeS nl rf td (smS tf ((taS plf x nt) &&& ((nI (t34 + 1)) ^^^ (-1))) 1 nt) (tat 25 cf (x * 5 + 1)) (bcI ((taS plf x nt) &&& ((nI (t34 + 1)) ^^^ (-1)))) (tat 25 cf (x * 5 + 4))))), (6, .int ((s_X3_lossOf ((s_X3_findLosses_2 nq tf qf lof wof nt).1) (nI (t34 + 1))) + (feeS nl rf td (smS tf ((taS plf x nt) &&& ((nI (t34 + 1)) ^^^ (-1))) 1 nt) (tat 25 cf (x * 5 + 1)) (bcI ((taS plf x nt) &&& ((nI (t34 + 1)) ^^^ (-1)))) (tat 25 cf (x * 5 + 4))))), (5, .int (nI (t34 + 1))), (3, .int x34_3), (0, .ref (ad an)), (1, .ref (ad g)), (2, .int x)]) hx hb dX3_leastFor_121 hl (by decide) rfl (fun ls hl => ?_)
              refine lv_iload hx hb dX3_leastFor_123 (lv_at hl 2 rfl) ?_
              refine lv_istore_n (lv' := [(3, .int (nI (t34 + 1))), (4, .int ((s_X3_lossOf ((s_X3_findLosses_2 nq tf qf lof wof nt).1) (nI (t34 + 1))) + (feeS nl rf td (smS tf ((taS plf x nt) &&& ((nI (t34 + 1)) ^^^ (-1))) 1 nt) (tat 25 cf (x * 5 + 1)) (bcI ((taS plf x nt) &&& ((nI (t34 + 1)) ^^^ (-1)))) (tat 25 cf (x * 5 + 4))))), (6, .int ((s_X3_lossOf ((s_X3_findLosses_2 nq tf qf lof wof nt).1) (nI (t34 + 1))) + (feeS nl rf td (smS tf ((taS plf x nt) &&& ((nI (t34 + 1)) ^^^ (-1))) 1 nt) (tat 25 cf (x * 5 + 1)) (bcI ((taS plf x nt) &&& ((nI (t34 + 1)) ^^^ (-1)))) (tat 25 cf (x * 5 + 4))))), (5, .int (nI (t34 + 1))), (0, .ref (ad an)), (1, .ref (ad g)), (2, .int x)]) hx hb dX3_leastFor_125 rfl hl (by decide) rfl (fun ls hl => ?_)
              refine lv_iinc (v := ((nI (t34 + 1)) + 1)) (lv' := [(5, .int ((nI (t34 + 1)) + 1)), (3, .int (nI (t34 + 1))), (4, .int ((s_X3_lossOf ((s_X3_findLosses_2 nq tf qf lof wof nt).1) (nI (t34 + 1))) + (feeS nl rf td (smS tf ((taS plf x nt) &&& ((nI (t34 + 1)) ^^^ (-1))) 1 nt) (tat 25 cf (x * 5 + 1)) (bcI ((taS plf x nt) &&& ((nI (t34 + 1)) ^^^ (-1)))) (tat 25 cf (x * 5 + 4))))), (6, .int ((s_X3_lossOf ((s_X3_findLosses_2 nq tf qf lof wof nt).1) (nI (t34 + 1))) + (feeS nl rf td (smS tf ((taS plf x nt) &&& ((nI (t34 + 1)) ^^^ (-1))) 1 nt) (tat 25 cf (x * 5 + 1)) (bcI ((taS plf x nt) &&& ((nI (t34 + 1)) ^^^ (-1)))) (tat 25 cf (x * 5 + 4))))), (0, .ref (ad an)), (1, .ref (ad g)), (2, .int x)]) hx hb dX3_leastFor_126 hl (k := 3) rfl rfl (by decide) rfl (fun ls hl => ?_)
              refine lv_goto (tgt := 34) hx hb dX3_leastFor_129 (by decide) ?_
              exact ih_34 (t34 + 1) ((s_X3_lossOf ((s_X3_findLosses_2 nq tf qf lof wof nt).1) (nI (t34 + 1))) + (feeS nl rf td (smS tf ((taS plf x nt) &&& ((nI (t34 + 1)) ^^^ (-1))) 1 nt) (tat 25 cf (x * 5 + 1)) (bcI ((taS plf x nt) &&& ((nI (t34 + 1)) ^^^ (-1)))) (tat 25 cf (x * 5 + 4)))) (nI (t34 + 1)) vf2_29 sf2_30 hg2_31 (by omega) (by omega) (by rw [s_X3_leastFor_34, ← e_x34_4, ← e_x34_3, s_X3_leastFor_34s, if_pos c_51, if_pos c_62, if_pos c_95]) (by rw [s_X3_leastFor_34, ← e_x34_4, ← e_x34_3, s_X3_leastFor_34s, if_pos c_51, if_pos c_62, if_pos c_95]) _ _ _ g32 g33 g34 (fun q n0 n1 n2 => ((fr35 q n0 n1 n2).trans (fL34 q n0 n1 n2))) hP hS ls (by rw [(show nI (t34 + 1 + 1) = nI (t34 + 1) + 1 by rw [(show t34 + 1 + 1 = t34 + 1 + 1 by omega)]; exact nI_succ _)]; exact lv_sub hl [0, 2, 1, 4, 5, 6] rfl)
            · skip
              refine lv_iload hx hb dX3_leastFor_98 (lv_at hl 0 rfl) ?_
              refine lv_iload hx hb dX3_leastFor_100 (lv_at hl 2 rfl) ?_
              refine lv_icmp_ne (tgt := 126) hx hb dX3_leastFor_102 (by decide) (fun c_102 => ?_) (fun c_102 => ?_)
              · skip
                refine lv_iinc (v := ((nI (t34 + 1)) + 1)) (lv' := [(5, .int ((nI (t34 + 1)) + 1)), (6, .int ((s_X3_lossOf ((s_X3_findLosses_2 nq tf qf lof wof nt).1) (nI (t34 + 1))) + (feeS nl rf td (smS tf ((taS plf x nt) &&& ((nI (t34 + 1)) ^^^ (-1))) 1 nt) (tat 25 cf (x * 5 + 1)) (bcI ((taS plf x nt) &&& ((nI (t34 + 1)) ^^^ (-1)))) (tat 25 cf (x * 5 + 4))))), (4, .int x34_4), (3, .int x34_3), (0, .ref (ad an)), (1, .ref (ad g)), (2, .int x)]) hx hb dX3_leastFor_126 hl (k := 1) rfl rfl (by decide) rfl (fun ls hl => ?_)
                refine lv_goto (tgt := 34) hx hb dX3_leastFor_129 (by decide) ?_
                exact ih_34 (t34 + 1) x34_4 x34_3 vf2_29 sf2_30 hg2_31 (by omega) (by omega) (by rw [s_X3_leastFor_34, ← e_x34_4, ← e_x34_3, s_X3_leastFor_34s, if_pos c_51, if_pos c_62, if_neg c_95, if_neg c_102]) (by rw [s_X3_leastFor_34, ← e_x34_4, ← e_x34_3, s_X3_leastFor_34s, if_pos c_51, if_pos c_62, if_neg c_95, if_neg c_102]) _ _ _ g32 g33 g34 (fun q n0 n1 n2 => ((fr35 q n0 n1 n2).trans (fL34 q n0 n1 n2))) hP hS ls (by rw [(show nI (t34 + 1 + 1) = nI (t34 + 1) + 1 by rw [(show t34 + 1 + 1 = t34 + 1 + 1 by omega)]; exact nI_succ _)]; exact lv_sub hl [0, 2, 3, 4, 5, 6] rfl)
              · skip
                refine lv_aload_n hx hb dX3_leastFor_105 rfl (lv_at hl 4 rfl) ?_
                refine lv_iload hx hb dX3_leastFor_106 (lv_at hl 1 rfl) ?_
                refine q_rdV (As := [.int (nI (t34 + 1))]) (rest := []) (c_X3_rowOf l D cB cI cJ ad n M27 an (taS plf x nt) 1 ck ((s_X3_findLosses_2 nq tf qf lof wof nt).2) (nI (t34 + 1)) h_an h_an_5 h_an_6 ((fr35 an (by omega) (by omega) (by omega)).trans ((fL34 an (by omega) (by omega) (by omega)).trans ((fr20 an (by omega) (by omega) (by omega)).trans (va_up_self (va_up M2 an (.inr (3, plansF ad an (taS plf x nt) fk ck))) an (.inr (3, plansF ad an (taS plf x nt) 1 ck)))))) ((fr35 (an + 5) (by omega) (by omega) (by omega)).trans ((fL34 (an + 5) (by omega) (by omega) (by omega)).trans ((fr20 (an + 5) (by omega) (by omega) (by omega)).trans ((va_up_ne (va_up M2 an (.inr (3, plansF ad an (taS plf x nt) fk ck))) (.inr (3, plansF ad an (taS plf x nt) 1 ck)) (show an + 5 ≠ an by omega)).trans ((va_up_ne M2 (.inr (3, plansF ad an (taS plf x nt) fk ck)) (show an + 5 ≠ an by omega)).trans ((fr6 (an + 5) (by omega) (by omega)).trans m_an_5)))))) ((fr35 (an + 6) (by omega) (by omega) (by omega)).trans ((fL34 (an + 6) (by omega) (by omega) (by omega)).trans ((fr20 (an + 6) (by omega) (by omega) (by omega)).trans ((va_up_ne (va_up M2 an (.inr (3, plansF ad an (taS plf x nt) fk ck))) (.inr (3, plansF ad an (taS plf x nt) 1 ck)) (show an + 6 ≠ an by omega)).trans ((va_up_ne M2 (.inr (3, plansF ad an (taS plf x nt) fk ck)) (show an + 6 ≠ an by omega)).trans g5))))) ) X hK hP hS hl.1 rfl gX3_leastFor_X3_rowOf yd_X3_rowOf ⟨Nat.le_of_ble_eq_true rfl, Nat.le_of_ble_eq_true rfl⟩ h_an ((fr35 an (by omega) (by omega) (by omega)).trans ((fL34 an (by omega) (by omega) (by omega)).trans ((fr20 an (by omega) (by omega) (by omega)).trans (va_up_self (va_up M2 an (.inr (3, plansF ad an (taS plf x nt) fk ck))) an (.inr (3, plansF ad an (taS plf x nt) 1 ck)))))) (ci := 3) rfl rfl (Nat.le_of_ble_eq_true rfl) ⟨Nat.zero_le _, Nat.zero_le _⟩ dX3_leastFor_108 ?_
                refine lv_aload_n hx hb dX3_leastFor_111 rfl (lv_at hl 4 rfl) ?_
                refine lv_iload_n hx hb dX3_leastFor_112 rfl (lv_at hl 3 rfl) ?_
                refine q_rdV (As := [.int x34_3]) (rest := [.int (s_X3_rowOf ((s_X3_findLosses_2 nq tf qf lof wof nt).2) (nI (t34 + 1)))]) (c_X3_rowOf l D cB cI cJ ad n M27 an (taS plf x nt) 1 ck ((s_X3_findLosses_2 nq tf qf lof wof nt).2) x34_3 h_an h_an_5 h_an_6 ((fr35 an (by omega) (by omega) (by omega)).trans ((fL34 an (by omega) (by omega) (by omega)).trans ((fr20 an (by omega) (by omega) (by omega)).trans (va_up_self (va_up M2 an (.inr (3, plansF ad an (taS plf x nt) fk ck))) an (.inr (3, plansF ad an (taS plf x nt) 1 ck)))))) ((fr35 (an + 5) (by omega) (by omega) (by omega)).trans ((fL34 (an + 5) (by omega) (by omega) (by omega)).trans ((fr20 (an + 5) (by omega) (by omega) (by omega)).trans ((va_up_ne (va_up M2 an (.inr (3, plansF ad an (taS plf x nt) fk ck))) (.inr (3, plansF ad an (taS plf x nt) 1 ck)) (show an + 5 ≠ an by omega)).trans ((va_up_ne M2 (.inr (3, plansF ad an (taS plf x nt) fk ck)) (show an + 5 ≠ an by omega)).trans ((fr6 (an + 5) (by omega) (by omega)).trans m_an_5)))))) ((fr35 (an + 6) (by omega) (by omega) (by omega)).trans ((fL34 (an + 6) (by omega) (by omega) (by omega)).trans ((fr20 (an + 6) (by omega) (by omega) (by omega)).trans ((va_up_ne (va_up M2 an (.inr (3, plansF ad an (taS plf x nt) fk ck))) (.inr (3, plansF ad an (taS plf x nt) 1 ck)) (show an + 6 ≠ an by omega)).trans ((va_up_ne M2 (.inr (3, plansF ad an (taS plf x nt) fk ck)) (show an + 6 ≠ an by omega)).trans g5))))) ) X hK hP hS hl.1 rfl gX3_leastFor_X3_rowOf yd_X3_rowOf ⟨Nat.le_of_ble_eq_true rfl, Nat.le_of_ble_eq_true rfl⟩ h_an ((fr35 an (by omega) (by omega) (by omega)).trans ((fL34 an (by omega) (by omega) (by omega)).trans ((fr20 an (by omega) (by omega) (by omega)).trans (va_up_self (va_up M2 an (.inr (3, plansF ad an (taS plf x nt) fk ck))) an (.inr (3, plansF ad an (taS plf x nt) 1 ck)))))) (ci := 3) rfl rfl (Nat.le_of_ble_eq_true rfl) ⟨Nat.zero_le _, Nat.zero_le _⟩ dX3_leastFor_113 ?_
                refine lv_icmp_ge (tgt := 126) hx hb dX3_leastFor_116 (by decide) (fun c_116 => ?_) (fun c_116 => ?_)
                · skip
                  refine lv_iinc (v := ((nI (t34 + 1)) + 1)) (lv' := [(5, .int ((nI (t34 + 1)) + 1)), (6, .int ((s_X3_lossOf ((s_X3_findLosses_2 nq tf qf lof wof nt).1) (nI (t34 + 1))) + (feeS nl rf td (smS tf ((taS plf x nt) &&& ((nI (t34 + 1)) ^^^ (-1))) 1 nt) (tat 25 cf (x * 5 + 1)) (bcI ((taS plf x nt) &&& ((nI (t34 + 1)) ^^^ (-1)))) (tat 25 cf (x * 5 + 4))))), (4, .int x34_4), (3, .int x34_3), (0, .ref (ad an)), (1, .ref (ad g)), (2, .int x)]) hx hb dX3_leastFor_126 hl (k := 1) rfl rfl (by decide) rfl (fun ls hl => ?_)
                  refine lv_goto (tgt := 34) hx hb dX3_leastFor_129 (by decide) ?_
                  exact ih_34 (t34 + 1) x34_4 x34_3 vf2_29 sf2_30 hg2_31 (by omega) (by omega) (by rw [s_X3_leastFor_34, ← e_x34_4, ← e_x34_3, s_X3_leastFor_34s, if_pos c_51, if_pos c_62, if_neg c_95, if_pos c_102, if_pos c_116]) (by rw [s_X3_leastFor_34, ← e_x34_4, ← e_x34_3, s_X3_leastFor_34s, if_pos c_51, if_pos c_62, if_neg c_95, if_pos c_102, if_pos c_116]) _ _ _ g32 g33 g34 (fun q n0 n1 n2 => ((fr35 q n0 n1 n2).trans (fL34 q n0 n1 n2))) hP hS ls (by rw [(show nI (t34 + 1 + 1) = nI (t34 + 1) + 1 by rw [(show t34 + 1 + 1 = t34 + 1 + 1 by omega)]; exact nI_succ _)]; exact lv_sub hl [0, 2, 3, 4, 5, 6] rfl)
                · skip
                  refine lv_iload hx hb dX3_leastFor_119 (lv_at hl 0 rfl) ?_
                  refine lv_istore (lv' := [(4, .int ((s_X3_lossOf ((s_X3_findLosses_2 nq tf qf lof wof nt).1) (nI (t34 + 1))) + (feeS nl rf td (smS tf ((taS plf x nt) &&& ((nI (t34 + 1)) ^^^ (-1))) 1 nt) (tat 25 cf (x * 5 + 1)) (bcI ((taS plf x nt) &&& ((nI (t34 + 1)) ^^^ (-1)))) (tat 25 cf (x * 5 + 4))))), (6, .int ((s_X3_lossOf ((s_X3_findLosses_2 nq tf qf lof wof nt).1) (nI (t34 + 1))) + (feeS nl rf td (smS tf ((taS plf x nt) &&& ((nI (t34 + 1)) ^^^ (-1))) 1 nt) (tat 25 cf (x * 5 + 1)) (bcI ((taS plf x nt) &&& ((nI (t34 + 1)) ^^^ (-1)))) (tat 25 cf (x * 5 + 4))))), (5, .int (nI (t34 + 1))), (3, .int x34_3), (0, .ref (ad an)), (1, .ref (ad g)), (2, .int x)]) hx hb dX3_leastFor_121 hl (by decide) rfl (fun ls hl => ?_)
                  refine lv_iload hx hb dX3_leastFor_123 (lv_at hl 2 rfl) ?_
                  refine lv_istore_n (lv' := [(3, .int (nI (t34 + 1))), (4, .int ((s_X3_lossOf ((s_X3_findLosses_2 nq tf qf lof wof nt).1) (nI (t34 + 1))) + (feeS nl rf td (smS tf ((taS plf x nt) &&& ((nI (t34 + 1)) ^^^ (-1))) 1 nt) (tat 25 cf (x * 5 + 1)) (bcI ((taS plf x nt) &&& ((nI (t34 + 1)) ^^^ (-1)))) (tat 25 cf (x * 5 + 4))))), (6, .int ((s_X3_lossOf ((s_X3_findLosses_2 nq tf qf lof wof nt).1) (nI (t34 + 1))) + (feeS nl rf td (smS tf ((taS plf x nt) &&& ((nI (t34 + 1)) ^^^ (-1))) 1 nt) (tat 25 cf (x * 5 + 1)) (bcI ((taS plf x nt) &&& ((nI (t34 + 1)) ^^^ (-1)))) (tat 25 cf (x * 5 + 4))))), (5, .int (nI (t34 + 1))), (0, .ref (ad an)), (1, .ref (ad g)), (2, .int x)]) hx hb dX3_leastFor_125 rfl hl (by decide) rfl (fun ls hl => ?_)
                  refine lv_iinc (v := ((nI (t34 + 1)) + 1)) (lv' := [(5, .int ((nI (t34 + 1)) + 1)), (3, .int (nI (t34 + 1))), (4, .int ((s_X3_lossOf ((s_X3_findLosses_2 nq tf qf lof wof nt).1) (nI (t34 + 1))) + (feeS nl rf td (smS tf ((taS plf x nt) &&& ((nI (t34 + 1)) ^^^ (-1))) 1 nt) (tat 25 cf (x * 5 + 1)) (bcI ((taS plf x nt) &&& ((nI (t34 + 1)) ^^^ (-1)))) (tat 25 cf (x * 5 + 4))))), (6, .int ((s_X3_lossOf ((s_X3_findLosses_2 nq tf qf lof wof nt).1) (nI (t34 + 1))) + (feeS nl rf td (smS tf ((taS plf x nt) &&& ((nI (t34 + 1)) ^^^ (-1))) 1 nt) (tat 25 cf (x * 5 + 1)) (bcI ((taS plf x nt) &&& ((nI (t34 + 1)) ^^^ (-1)))) (tat 25 cf (x * 5 + 4))))), (0, .ref (ad an)), (1, .ref (ad g)), (2, .int x)]) hx hb dX3_leastFor_126 hl (k := 3) rfl rfl (by decide) rfl (fun ls hl => ?_)
                  refine lv_goto (tgt := 34) hx hb dX3_leastFor_129 (by decide) ?_
                  exact ih_34 (t34 + 1) ((s_X3_lossOf ((s_X3_findLosses_2 nq tf qf lof wof nt).1) (nI (t34 + 1))) + (feeS nl rf td (smS tf ((taS plf x nt) &&& ((nI (t34 + 1)) ^^^ (-1))) 1 nt) (tat 25 cf (x * 5 + 1)) (bcI ((taS plf x nt) &&& ((nI (t34 + 1)) ^^^ (-1)))) (tat 25 cf (x * 5 + 4)))) (nI (t34 + 1)) vf2_29 sf2_30 hg2_31 (by omega) (by omega) (by rw [s_X3_leastFor_34, ← e_x34_4, ← e_x34_3, s_X3_leastFor_34s, if_pos c_51, if_pos c_62, if_neg c_95, if_pos c_102, if_neg c_116]) (by rw [s_X3_leastFor_34, ← e_x34_4, ← e_x34_3, s_X3_leastFor_34s, if_pos c_51, if_pos c_62, if_neg c_95, if_pos c_102, if_neg c_116]) _ _ _ g32 g33 g34 (fun q n0 n1 n2 => ((fr35 q n0 n1 n2).trans (fL34 q n0 n1 n2))) hP hS ls (by rw [(show nI (t34 + 1 + 1) = nI (t34 + 1) + 1 by rw [(show t34 + 1 + 1 = t34 + 1 + 1 by omega)]; exact nI_succ _)]; exact lv_sub hl [0, 2, 1, 4, 5, 6] rfl)
          · skip
            refine lv_goto (tgt := 126) hx hb dX3_leastFor_65 (by decide) ?_
            refine lv_iinc (v := ((nI (t34 + 1)) + 1)) (lv' := [(5, .int ((nI (t34 + 1)) + 1)), (4, .int x34_4), (3, .int x34_3), (0, .ref (ad an)), (1, .ref (ad g)), (2, .int x)]) hx hb dX3_leastFor_126 hl (k := 0) rfl rfl (by decide) rfl (fun ls hl => ?_)
            refine lv_goto (tgt := 34) hx hb dX3_leastFor_129 (by decide) ?_
            exact ih_34 (t34 + 1) x34_4 x34_3 y34_0 y34_1 y34_2 (by omega) (by omega) (by rw [s_X3_leastFor_34, ← e_x34_4, ← e_x34_3, s_X3_leastFor_34s, if_pos c_51, if_neg c_62]) (by rw [s_X3_leastFor_34, ← e_x34_4, ← e_x34_3, s_X3_leastFor_34s, if_pos c_51, if_neg c_62]) _ _ _ mL34_0 mL34_1 mL34_2 (fun q n0 n1 n2 => (fL34 q n0 n1 n2)) hP hS ls (by rw [(show nI (t34 + 1 + 1) = nI (t34 + 1) + 1 by rw [(show t34 + 1 + 1 = t34 + 1 + 1 by omega)]; exact nI_succ _)]; exact lv_sub hl [0, 1, 2, 3, 4, 5] rfl)
  exact loop_34 (4096 + 1) 0 (feeS nl rf td (smS tf (taS plf x nt) 1 nt) (tat 25 cf (x * 5 + 1)) (bcI (taS plf x nt)) (tat 25 cf (x * 5 + 4))) 0 vf2_14 sf2_15 hg2_16 (by omega) (by omega) (by rfl) (by rfl) _ _ _ g17 g18 g19 (fun q n0 n1 n2 => rfl) hP hS ls (lv_sub hl [0, 1, 2, 3, 4, 5] rfl)
set_option maxRecDepth 20000 in
theorem nX3_coatsOf_46 : ∀ w ∈ u_ws RX7 TX7 3, w ∈ wsX3_coatsOf := by decide +kernel
set_option maxRecDepth 20000 in
theorem fX3_coatsOf_112 : FL wsX3_coatsOf RX3 112 0 6 := ⟨RX0, TX0, 12, rfl, by decide +kernel, by decide, by decide +kernel⟩
set_option maxRecDepth 20000 in
theorem fX3_coatsOf_115 : FL wsX3_coatsOf RX3 115 0 1 := ⟨RX0, TX0, 12, rfl, by decide +kernel, by decide, by decide +kernel⟩
def s_X3_coatsOf_5s (nt : Nat) (cf : Nat → Int32) (plf : Nat → Int32) (x : Int32) (t5 : Nat) (x5_3 : Int32) : Int32 := if (tat 25 cf ((nI t5) * 5 + 0)) = x then (x5_3 ||| (taS plf (nI t5) nt)) else x5_3
def s_X3_coatsOf_5 (nt : Nat) (cf : Nat → Int32) (plf : Nat → Int32) (x : Int32) (z0 : Int32) : Nat → Int32
  | 0 => z0
  | t + 1 => s_X3_coatsOf_5s nt cf plf x t (s_X3_coatsOf_5 nt cf plf x z0 t)
def s_X3_coatsOf (nt : Nat) (nc : Nat) (cf : Nat → Int32) (tf : Nat → Int32) (plf : Nat → Int32) (x : Int32) : Int32 := ((s_X3_coatsOf_5 nt cf plf x 0 nc) &&& (okS tf 1 nt))
set_option maxHeartbeats 4000000 in
set_option maxRecDepth 100000 in
theorem c_X3_coatsOf (l : Launch) (D : va_G) (cB cI cJ : ClassId) (ad : Nat → Nat) (n : Nat) (M : Nat → va_E) (an g h nt nc : Nat) (tof fk ck op : Int32) (hv cf tf plf : Nat → Int32) (x : Int32) (h_an : an < n) (h_g : g < n) (h_g_1 : g + 1 < n) (h_g_2 : g + 2 < n) (h_h : h < n) (h_h_5 : h + 5 < n) (h_h_6 : h + 6 < n) (h_h_3 : h + 3 < n) (h_h_4 : h + 4 < n) (m_an : M an = .inr (3, plansF ad an tof fk ck)) (m_g : M g = .inr (7, standF ad g h op)) (m_g_1 : M (g + 1) = .inr (8, [.int 1, .ref (ad (g + 2))])) (m_g_2 : M (g + 2) = .inl (cI, 12, .inl plf)) (m_h : M h = .inr (0, hallF ad h hv)) (m_h_5 : M (h + 5) = .inr (8, [.int 7, .ref (ad (h + 6))])) (m_h_6 : M (h + 6) = .inl (cI, 84, .inl tf)) (m_h_3 : M (h + 3) = .inr (8, [.int 5, .ref (ad (h + 4))])) (m_h_4 : M (h + 4) = .inl (cI, 25, .inl cf)) (h7 : hv 7 = nI nt) (hnt : nt ≤ 12) (h6 : hv 6 = nI nc) (hnc : nc ≤ 5) : cR l D cB cI cJ ad n M yX3_coatsOf wsX3_coatsOf 2 46 [.ref (ad an), .ref (ad g), .int x] (s_X3_coatsOf nt nc cf tf plf x) := by
  refine q_body (cc := cX3_coatsOf) (maxL := 5) (ret := (some .int)) (by decide) rfl (Nat.le_of_ble_eq_true rfl) ?_
  intro p e s m args below meth c ls X hr hlocks hK hP hl
  obtain ⟨hx, hb, hml, hown, hts⟩ := id X
  have hS : va_S (ipA ad n) s.heap s.heap [] := va_S.rf
  have hl : lv_has ls 5 [(0, .ref (ad an)), (1, .ref (ad g)), (2, .int x)] := hl
  refine lv_iconst (v := 0) hx hb dX3_coatsOf_0 (by decide) ?_
  refine lv_istore_n (lv' := [(3, .int 0), (0, .ref (ad an)), (1, .ref (ad g)), (2, .int x)]) hx hb dX3_coatsOf_1 rfl hl (by decide) rfl (fun ls hl => ?_)
  refine lv_iconst (v := 0) hx hb dX3_coatsOf_2 (by decide) ?_
  refine lv_istore (lv' := [(4, .int 0), (3, .int 0), (0, .ref (ad an)), (1, .ref (ad g)), (2, .int x)]) hx hb dX3_coatsOf_3 hl (by decide) rfl (fun ls hl => ?_)
  have loop_5 : ∀ (fuel : Nat) (t5 : Nat) (x5_3 : Int32), nc - (t5) < fuel → t5 ≤ nc → x5_3 = (s_X3_coatsOf_5 nt cf plf x 0 t5) → ∀ (ls : Array Slot), lv_has ls 5 [(4, .int (nI t5)), (3, .int x5_3), (0, .ref (ad an)), (1, .ref (ad g)), (2, .int x)] → W p l e (rmOf 2 46) s m args below meth c s.heap [] 0 0 (MQ below (vp_Si (fun r9 => r9 = s_X3_coatsOf nt nc cf tf plf x)) args s 0 0 (fun _ => False)) (F0 m 5 ls []) := by
    intro fuel
    induction fuel with
    | zero =>
      intro t5 x5_3 hz
      exact absurd hz (Nat.not_lt_zero _)
    | succ fuel ih_5 =>
      intro t5 x5_3 hz_5 h_t5 e_x5_3 ls hl
      skip
      refine lv_iload hx hb dX3_coatsOf_5 (lv_at hl 0 rfl) ?_
      refine lv_aload_n hx hb dX3_coatsOf_7 rfl (lv_at hl 3 rfl) ?_
      refine q_getN (v := .ref (ad h)) (fs := standF ad g h op) (T := TX7) (k := 0) (C := RX7) (N := 3) (ci := 7) X hK hP hK.1.2.2.1 rfl nX3_coatsOf_46 (by decide) h_g m_g rfl dX3_coatsOf_8 ?_
      refine q_get (v := .int (hv 6)) (fs := hallF ad h hv) X hK hP fX3_coatsOf_112 h_h m_h rfl dX3_coatsOf_11 ?_
      refine lv_icmp_ge (tgt := 49) hx hb dX3_coatsOf_14 (by decide) (fun c_14 => ?_) (fun c_14 => ?_)
      · rw [h6] at c_14
        have h9_5 : t5 = nc := eq_of_le (t := t5) (k := nc) c_14 (by omega) h_t5
        subst t5
        subst e_x5_3
        refine lv_iload_n hx hb dX3_coatsOf_49 rfl (lv_at hl 1 rfl) ?_
        refine lv_aload_n hx hb dX3_coatsOf_50 rfl (lv_at hl 3 rfl) ?_
        refine q_getN (v := .ref (ad h)) (fs := standF ad g h op) (T := TX7) (k := 0) (C := RX7) (N := 3) (ci := 7) X hK hP hK.1.2.2.1 rfl nX3_coatsOf_46 (by decide) h_g m_g rfl dX3_coatsOf_51 ?_
        refine lv_iconst (v := 1) hx hb dX3_coatsOf_54 (by decide) ?_
        refine q_rdV (As := [.int 1]) (rest := [.int (s_X3_coatsOf_5 nt cf plf x 0 nc)]) (c_X0_ofKind l D cB cI cJ ad n M h nt hv tf 1 h_h h_h_5 h_h_6 m_h m_h_5 m_h_6 h7 hnt) X hK hP hS hl.1 rfl gX3_coatsOf_X0_ofKind yd_X0_ofKind ⟨Nat.le_of_ble_eq_true rfl, Nat.le_of_ble_eq_true rfl⟩ h_h m_h (ci := 0) rfl rfl (Nat.le_of_ble_eq_true rfl) ⟨Nat.zero_le _, Nat.zero_le _⟩ dX3_coatsOf_55 ?_
        refine lv_iand hx hb dX3_coatsOf_58 ?_
        exact q_iret hb hx hr hlocks (by rfl) dX3_coatsOf_59
      · rw [h6] at c_14
        have h9_5 : t5 < nc := lt_of_nlt (t := t5) (k := nc) c_14 (by omega) h_t5
        refine lv_aload_n hx hb dX3_coatsOf_17 rfl (lv_at hl 3 rfl) ?_
        refine q_getN (v := .ref (ad h)) (fs := standF ad g h op) (T := TX7) (k := 0) (C := RX7) (N := 3) (ci := 7) X hK hP hK.1.2.2.1 rfl nX3_coatsOf_46 (by decide) h_g m_g rfl dX3_coatsOf_18 ?_
        refine q_get (v := .ref (ad (h + 3))) (fs := hallF ad h hv) X hK hP fX3_coatsOf_115 h_h m_h rfl dX3_coatsOf_21 ?_
        refine lv_iload hx hb dX3_coatsOf_24 (lv_at hl 0 rfl) ?_
        refine lv_iconst (v := 0) hx hb dX3_coatsOf_26 (by decide) ?_
        refine q_rdV (As := [.int (nI t5), .int 0]) (rest := []) (c_X8_at_ l D cB cI cJ ad n M (h + 3) (h + 4) 25 5 cf (nI t5) 0 h_h_3 h_h_4 m_h_3 m_h_4 (by decide)) X hK hP hS hl.1 rfl gX3_coatsOf_X8_at_ yd_X8_at_ ⟨Nat.le_of_ble_eq_true rfl, Nat.le_of_ble_eq_true rfl⟩ h_h_3 m_h_3 (ci := 8) rfl rfl (Nat.le_of_ble_eq_true rfl) ⟨Nat.zero_le _, Nat.zero_le _⟩ dX3_coatsOf_27 ?_
        refine lv_iload_n hx hb dX3_coatsOf_30 rfl (lv_at hl 4 rfl) ?_
        refine lv_icmp_ne (tgt := 43) hx hb dX3_coatsOf_31 (by decide) (fun c_31 => ?_) (fun c_31 => ?_)
        · skip
          refine lv_iinc (v := ((nI t5) + 1)) (lv' := [(4, .int ((nI t5) + 1)), (3, .int x5_3), (0, .ref (ad an)), (1, .ref (ad g)), (2, .int x)]) hx hb dX3_coatsOf_43 hl (k := 0) rfl rfl (by decide) rfl (fun ls hl => ?_)
          refine lv_goto (tgt := 5) hx hb dX3_coatsOf_46 (by decide) ?_
          exact ih_5 (t5 + 1) x5_3 (by omega) (by omega) (by rw [s_X3_coatsOf_5, ← e_x5_3, s_X3_coatsOf_5s, if_neg c_31]) ls (by rw [(show nI (t5 + 1) = nI t5 + 1 by exact nI_succ _)]; exact lv_sub hl [0, 1, 2, 3, 4] rfl)
        · skip
          refine lv_iload_n hx hb dX3_coatsOf_34 rfl (lv_at hl 1 rfl) ?_
          refine lv_aload_n hx hb dX3_coatsOf_35 rfl (lv_at hl 3 rfl) ?_
          refine lv_iload hx hb dX3_coatsOf_36 (lv_at hl 0 rfl) ?_
          refine q_rdV (As := [.int (nI t5)]) (rest := [.int x5_3]) (c_X7_thingsAt l D cB cI cJ ad n M g h nt op hv plf (nI t5) h_g h_g_1 h_g_2 h_h m_g m_g_1 m_g_2 m_h h7 hnt) X hK hP hS hl.1 rfl gX3_coatsOf_X7_thingsAt yd_X7_thingsAt ⟨Nat.le_of_ble_eq_true rfl, Nat.le_of_ble_eq_true rfl⟩ h_g m_g (ci := 7) rfl rfl (Nat.le_of_ble_eq_true rfl) ⟨Nat.zero_le _, Nat.zero_le _⟩ dX3_coatsOf_38 ?_
          refine lv_ior hx hb dX3_coatsOf_41 ?_
          refine lv_istore_n (lv' := [(3, .int (x5_3 ||| (taS plf (nI t5) nt))), (4, .int (nI t5)), (0, .ref (ad an)), (1, .ref (ad g)), (2, .int x)]) hx hb dX3_coatsOf_42 rfl hl (by decide) rfl (fun ls hl => ?_)
          refine lv_iinc (v := ((nI t5) + 1)) (lv' := [(4, .int ((nI t5) + 1)), (3, .int (x5_3 ||| (taS plf (nI t5) nt))), (0, .ref (ad an)), (1, .ref (ad g)), (2, .int x)]) hx hb dX3_coatsOf_43 hl (k := 1) rfl rfl (by decide) rfl (fun ls hl => ?_)
          refine lv_goto (tgt := 5) hx hb dX3_coatsOf_46 (by decide) ?_
          exact ih_5 (t5 + 1) (x5_3 ||| (taS plf (nI t5) nt)) (by omega) (by omega) (by rw [s_X3_coatsOf_5, ← e_x5_3, s_X3_coatsOf_5s, if_pos c_31]) ls (by rw [(show nI (t5 + 1) = nI t5 + 1 by exact nI_succ _)]; exact lv_sub hl [0, 1, 2, 3, 4] rfl)
  exact loop_5 (nc + 1) 0 0 (by omega) (by omega) (by rfl) ls (lv_sub hl [0, 1, 2, 3, 4] rfl)
set_option maxRecDepth 20000 in
theorem nX3_coatsToWear_46 : ∀ w ∈ u_ws RX7 TX7 3, w ∈ wsX3_coatsToWear := by decide +kernel
theorem yd_X3_coatsOf : YD yX3_coatsOf 2 := ⟨by decide +kernel, by decide +kernel, by decide +kernel⟩
set_option maxRecDepth 20000 in
theorem fX3_coatsToWear_103 : FL wsX3_coatsToWear RX3 103 0 0 := ⟨RX0, TX0, 12, rfl, by decide +kernel, by decide, by decide +kernel⟩
def s_X3_coatsToWear_40s (nt : Nat) (nc : Nat) (cf : Nat → Int32) (tf : Nat → Int32) (plf : Nat → Int32) (x : Int32) (y : Int32) (t40 : Nat) (x40_7 : Int32) (x40_6 : Int32) : Int32 × Int32 := if ((nI t40) &&& ((s_X3_coatsOf nt nc cf tf plf x) ^^^ (-1))) = 0 then if x40_6 ≤ (smS tf (nI t40) 6 nt) then (x40_7, x40_6) else if (smS tf (nI t40) 1 nt) < y then (x40_7, x40_6) else (nI t40, (smS tf (nI t40) 6 nt)) else (x40_7, x40_6)
def s_X3_coatsToWear_40 (nt : Nat) (nc : Nat) (cf : Nat → Int32) (tf : Nat → Int32) (plf : Nat → Int32) (x : Int32) (y : Int32) (z0 : Int32) (z1 : Int32) : Nat → Int32 × Int32
  | 0 => (z0, z1)
  | t + 1 => s_X3_coatsToWear_40s nt nc cf tf plf x y t ((s_X3_coatsToWear_40 nt nc cf tf plf x y z0 z1 t).1) ((s_X3_coatsToWear_40 nt nc cf tf plf x y z0 z1 t).2)
def s_X3_coatsToWear (nt : Nat) (nc : Nat) (pf : Nat → Int32) (cf : Nat → Int32) (tf : Nat → Int32) (plf : Nat → Int32) (x : Int32) (y : Int32) : Int32 := ((s_X3_coatsToWear_40 nt nc cf tf plf x y (-1) (((tat 12 pf (x * 3 + 2)) - (heS nt tf plf x)) + 1) 4096).1)
set_option maxHeartbeats 4000000 in
set_option maxRecDepth 100000 in
theorem c_X3_coatsToWear (l : Launch) (D : va_G) (cB cI cJ : ClassId) (ad : Nat → Nat) (n : Nat) (M : Nat → va_E) (an g h nt nc : Nat) (tof fk ck op : Int32) (hv pf cf tf plf : Nat → Int32) (x y : Int32) (h_an : an < n) (h_g : g < n) (h_g_1 : g + 1 < n) (h_g_2 : g + 2 < n) (h_h : h < n) (h_h_5 : h + 5 < n) (h_h_6 : h + 6 < n) (h_h_3 : h + 3 < n) (h_h_4 : h + 4 < n) (h_h_1 : h + 1 < n) (h_h_2 : h + 2 < n) (m_an : M an = .inr (3, plansF ad an tof fk ck)) (m_g : M g = .inr (7, standF ad g h op)) (m_g_1 : M (g + 1) = .inr (8, [.int 1, .ref (ad (g + 2))])) (m_g_2 : M (g + 2) = .inl (cI, 12, .inl plf)) (m_h : M h = .inr (0, hallF ad h hv)) (m_h_5 : M (h + 5) = .inr (8, [.int 7, .ref (ad (h + 6))])) (m_h_6 : M (h + 6) = .inl (cI, 84, .inl tf)) (m_h_3 : M (h + 3) = .inr (8, [.int 5, .ref (ad (h + 4))])) (m_h_4 : M (h + 4) = .inl (cI, 25, .inl cf)) (m_h_1 : M (h + 1) = .inr (8, [.int 3, .ref (ad (h + 2))])) (m_h_2 : M (h + 2) = .inl (cI, 12, .inl pf)) (h7 : hv 7 = nI nt) (hnt : nt ≤ 12) (h6 : hv 6 = nI nc) (hnc : nc ≤ 5) : cR l D cB cI cJ ad n M yX3_coatsToWear wsX3_coatsToWear 3 70 [.ref (ad an), .ref (ad g), .int x, .int y] (s_X3_coatsToWear nt nc pf cf tf plf x y) := by
  refine q_body (cc := cX3_coatsToWear) (maxL := 9) (ret := (some .int)) (by decide) rfl (Nat.le_of_ble_eq_true rfl) ?_
  intro p e s m args below meth c ls X hr hlocks hK hP hl
  obtain ⟨hx, hb, hml, hown, hts⟩ := id X
  have hS : va_S (ipA ad n) s.heap s.heap [] := va_S.rf
  have hl : lv_has ls 9 [(0, .ref (ad an)), (1, .ref (ad g)), (2, .int x), (3, .int y)] := hl
  refine lv_aload_n hx hb dX3_coatsToWear_0 rfl (lv_at hl 1 rfl) ?_
  refine q_getN (v := .ref (ad h)) (fs := standF ad g h op) (T := TX7) (k := 0) (C := RX7) (N := 3) (ci := 7) X hK hP hK.1.2.2.1 rfl nX3_coatsToWear_46 (by decide) h_g m_g rfl dX3_coatsToWear_1 ?_
  refine lv_astore (lv' := [(4, .ref (ad h)), (0, .ref (ad an)), (1, .ref (ad g)), (2, .int x), (3, .int y)]) hx hb dX3_coatsToWear_4 hl (by decide) rfl (fun ls hl => ?_)
  refine lv_aload_n hx hb dX3_coatsToWear_6 rfl (lv_at hl 1 rfl) ?_
  refine lv_aload_n hx hb dX3_coatsToWear_7 rfl (lv_at hl 2 rfl) ?_
  refine lv_iload_n hx hb dX3_coatsToWear_8 rfl (lv_at hl 3 rfl) ?_
  refine q_rdV (As := [.ref (ad g), .int x]) (rest := []) (c_X3_coatsOf l D cB cI cJ ad n M an g h nt nc tof fk ck op hv cf tf plf x h_an h_g h_g_1 h_g_2 h_h h_h_5 h_h_6 h_h_3 h_h_4 m_an m_g m_g_1 m_g_2 m_h m_h_5 m_h_6 m_h_3 m_h_4 h7 hnt h6 hnc) X hK hP hS hl.1 rfl gX3_coatsToWear_X3_coatsOf yd_X3_coatsOf ⟨Nat.le_of_ble_eq_true rfl, Nat.le_of_ble_eq_true rfl⟩ h_an m_an (ci := 3) rfl rfl (Nat.le_of_ble_eq_true rfl) ⟨Nat.zero_le _, Nat.zero_le _⟩ dX3_coatsToWear_9 ?_
  refine lv_istore (lv' := [(5, .int (s_X3_coatsOf nt nc cf tf plf x)), (4, .ref (ad h)), (0, .ref (ad an)), (1, .ref (ad g)), (2, .int x), (3, .int y)]) hx hb dX3_coatsToWear_12 hl (by decide) rfl (fun ls hl => ?_)
  refine lv_aload hx hb dX3_coatsToWear_14 (lv_at hl 1 rfl) ?_
  refine q_get (v := .ref (ad (h + 1))) (fs := hallF ad h hv) X hK hP fX3_coatsToWear_103 h_h m_h rfl dX3_coatsToWear_16 ?_
  refine lv_iload_n hx hb dX3_coatsToWear_19 rfl (lv_at hl 4 rfl) ?_
  refine lv_iconst (v := 2) hx hb dX3_coatsToWear_20 (by decide) ?_
  refine q_rdV (As := [.int x, .int 2]) (rest := []) (c_X8_at_ l D cB cI cJ ad n M (h + 1) (h + 2) 12 3 pf x 2 h_h_1 h_h_2 m_h_1 m_h_2 (by decide)) X hK hP hS hl.1 rfl gX3_coatsToWear_X8_at_ yd_X8_at_ ⟨Nat.le_of_ble_eq_true rfl, Nat.le_of_ble_eq_true rfl⟩ h_h_1 m_h_1 (ci := 8) rfl rfl (Nat.le_of_ble_eq_true rfl) ⟨Nat.zero_le _, Nat.zero_le _⟩ dX3_coatsToWear_21 ?_
  refine lv_aload_n hx hb dX3_coatsToWear_24 rfl (lv_at hl 3 rfl) ?_
  refine lv_iload_n hx hb dX3_coatsToWear_25 rfl (lv_at hl 4 rfl) ?_
  refine q_rdV (As := [.int x]) (rest := [.int (tat 12 pf (x * 3 + 2))]) (c_X7_heatOn l D cB cI cJ ad n M g h nt op hv tf plf x h_g h_g_1 h_g_2 h_h h_h_5 h_h_6 m_g m_g_1 m_g_2 m_h m_h_5 m_h_6 h7 hnt) X hK hP hS hl.1 rfl gX3_coatsToWear_X7_heatOn yd_X7_heatOn ⟨Nat.le_of_ble_eq_true rfl, Nat.le_of_ble_eq_true rfl⟩ h_g m_g (ci := 7) rfl rfl (Nat.le_of_ble_eq_true rfl) ⟨Nat.zero_le _, Nat.zero_le _⟩ dX3_coatsToWear_26 ?_
  refine lv_isub hx hb dX3_coatsToWear_29 ?_
  refine lv_iconst (v := 1) hx hb dX3_coatsToWear_30 (by decide) ?_
  refine lv_iadd hx hb dX3_coatsToWear_31 ?_
  refine lv_istore (lv' := [(6, .int (((tat 12 pf (x * 3 + 2)) - (heS nt tf plf x)) + 1)), (5, .int (s_X3_coatsOf nt nc cf tf plf x)), (4, .ref (ad h)), (0, .ref (ad an)), (1, .ref (ad g)), (2, .int x), (3, .int y)]) hx hb dX3_coatsToWear_32 hl (by decide) rfl (fun ls hl => ?_)
  refine lv_iconst (v := (-1)) hx hb dX3_coatsToWear_34 (by decide) ?_
  refine lv_istore (lv' := [(7, .int (-1)), (6, .int (((tat 12 pf (x * 3 + 2)) - (heS nt tf plf x)) + 1)), (5, .int (s_X3_coatsOf nt nc cf tf plf x)), (4, .ref (ad h)), (0, .ref (ad an)), (1, .ref (ad g)), (2, .int x), (3, .int y)]) hx hb dX3_coatsToWear_35 hl (by decide) rfl (fun ls hl => ?_)
  refine lv_iconst (v := 0) hx hb dX3_coatsToWear_37 (by decide) ?_
  refine lv_istore (lv' := [(8, .int 0), (7, .int (-1)), (6, .int (((tat 12 pf (x * 3 + 2)) - (heS nt tf plf x)) + 1)), (5, .int (s_X3_coatsOf nt nc cf tf plf x)), (4, .ref (ad h)), (0, .ref (ad an)), (1, .ref (ad g)), (2, .int x), (3, .int y)]) hx hb dX3_coatsToWear_38 hl (by decide) rfl (fun ls hl => ?_)
  have loop_40 : ∀ (fuel : Nat) (t40 : Nat) (x40_7 : Int32) (x40_6 : Int32), 4096 - (t40) < fuel → t40 ≤ 4096 → x40_7 = (s_X3_coatsToWear_40 nt nc cf tf plf x y (-1) (((tat 12 pf (x * 3 + 2)) - (heS nt tf plf x)) + 1) t40).1 → x40_6 = (s_X3_coatsToWear_40 nt nc cf tf plf x y (-1) (((tat 12 pf (x * 3 + 2)) - (heS nt tf plf x)) + 1) t40).2 → ∀ (ls : Array Slot), lv_has ls 9 [(8, .int (nI t40)), (7, .int x40_7), (6, .int x40_6), (5, .int (s_X3_coatsOf nt nc cf tf plf x)), (4, .ref (ad h)), (0, .ref (ad an)), (1, .ref (ad g)), (2, .int x), (3, .int y)] → W p l e (rmOf 3 70) s m args below meth c s.heap [] 0 0 (MQ below (vp_Si (fun r9 => r9 = s_X3_coatsToWear nt nc pf cf tf plf x y)) args s 0 0 (fun _ => False)) (F0 m 40 ls []) := by
    intro fuel
    induction fuel with
    | zero =>
      intro t40 x40_7 x40_6 hz
      exact absurd hz (Nat.not_lt_zero _)
    | succ fuel ih_40 =>
      intro t40 x40_7 x40_6 hz_40 h_t40 e_x40_7 e_x40_6 ls hl
      skip
      refine lv_iload hx hb dX3_coatsToWear_40 (lv_at hl 0 rfl) ?_
      refine lv_sipush (v := 4096) hx hb dX3_coatsToWear_42 (by decide) ?_
      refine lv_icmp_ge (tgt := 105) hx hb dX3_coatsToWear_45 (by decide) (fun c_45 => ?_) (fun c_45 => ?_)
      · skip
        have h9_40 : t40 = 4096 := eq_of_le (t := t40) (k := 4096) c_45 (by omega) h_t40
        subst h9_40
        subst e_x40_7
        subst e_x40_6
        refine lv_iload hx hb dX3_coatsToWear_105 (lv_at hl 1 rfl) ?_
        exact q_iret hb hx hr hlocks (by rfl) dX3_coatsToWear_107
      · skip
        have h9_40 : t40 < 4096 := lt_of_nlt (t := t40) (k := 4096) c_45 (by omega) h_t40
        refine lv_iload hx hb dX3_coatsToWear_48 (lv_at hl 0 rfl) ?_
        refine lv_iload hx hb dX3_coatsToWear_50 (lv_at hl 3 rfl) ?_
        refine lv_iconst (v := (-1)) hx hb dX3_coatsToWear_52 (by decide) ?_
        refine lv_ixor hx hb dX3_coatsToWear_53 ?_
        refine lv_iand hx hb dX3_coatsToWear_54 ?_
        refine lv_if_ne (tgt := 99) hx hb dX3_coatsToWear_55 (by decide) (fun c_55 => ?_) (fun c_55 => ?_)
        · skip
          refine lv_iinc (v := ((nI t40) + 1)) (lv' := [(8, .int ((nI t40) + 1)), (7, .int x40_7), (6, .int x40_6), (5, .int (s_X3_coatsOf nt nc cf tf plf x)), (4, .ref (ad h)), (0, .ref (ad an)), (1, .ref (ad g)), (2, .int x), (3, .int y)]) hx hb dX3_coatsToWear_99 hl (k := 0) rfl rfl (by decide) rfl (fun ls hl => ?_)
          refine lv_goto (tgt := 40) hx hb dX3_coatsToWear_102 (by decide) ?_
          exact ih_40 (t40 + 1) x40_7 x40_6 (by omega) (by omega) (by rw [s_X3_coatsToWear_40, ← e_x40_7, ← e_x40_6, s_X3_coatsToWear_40s, if_neg c_55]) (by rw [s_X3_coatsToWear_40, ← e_x40_7, ← e_x40_6, s_X3_coatsToWear_40s, if_neg c_55]) ls (by rw [(show nI (t40 + 1) = nI t40 + 1 by exact nI_succ _)]; exact lv_sub hl [0, 1, 2, 3, 4, 5, 6, 7, 8] rfl)
        · skip
          refine lv_aload hx hb dX3_coatsToWear_58 (lv_at hl 4 rfl) ?_
          refine lv_iload hx hb dX3_coatsToWear_60 (lv_at hl 0 rfl) ?_
          refine lv_bipush (v := 6) hx hb dX3_coatsToWear_62 (by decide) ?_
          refine q_rdV (As := [.int (nI t40), .int 6]) (rest := []) (c_X0_sumOf l D cB cI cJ ad n M h nt hv tf (nI t40) 6 h_h h_h_5 h_h_6 m_h m_h_5 m_h_6 h7 hnt) X hK hP hS hl.1 rfl gX3_coatsToWear_X0_sumOf yd_X0_sumOf ⟨Nat.le_of_ble_eq_true rfl, Nat.le_of_ble_eq_true rfl⟩ h_h m_h (ci := 0) rfl rfl (Nat.le_of_ble_eq_true rfl) ⟨Nat.zero_le _, Nat.zero_le _⟩ dX3_coatsToWear_64 ?_
          refine lv_iload hx hb dX3_coatsToWear_67 (lv_at hl 2 rfl) ?_
          refine lv_icmp_ge (tgt := 99) hx hb dX3_coatsToWear_69 (by decide) (fun c_69 => ?_) (fun c_69 => ?_)
          · skip
            refine lv_iinc (v := ((nI t40) + 1)) (lv' := [(8, .int ((nI t40) + 1)), (7, .int x40_7), (6, .int x40_6), (5, .int (s_X3_coatsOf nt nc cf tf plf x)), (4, .ref (ad h)), (0, .ref (ad an)), (1, .ref (ad g)), (2, .int x), (3, .int y)]) hx hb dX3_coatsToWear_99 hl (k := 0) rfl rfl (by decide) rfl (fun ls hl => ?_)
            refine lv_goto (tgt := 40) hx hb dX3_coatsToWear_102 (by decide) ?_
            exact ih_40 (t40 + 1) x40_7 x40_6 (by omega) (by omega) (by rw [s_X3_coatsToWear_40, ← e_x40_7, ← e_x40_6, s_X3_coatsToWear_40s, if_pos c_55, if_pos c_69]) (by rw [s_X3_coatsToWear_40, ← e_x40_7, ← e_x40_6, s_X3_coatsToWear_40s, if_pos c_55, if_pos c_69]) ls (by rw [(show nI (t40 + 1) = nI t40 + 1 by exact nI_succ _)]; exact lv_sub hl [0, 1, 2, 3, 4, 5, 6, 7, 8] rfl)
          · skip
            refine lv_aload hx hb dX3_coatsToWear_72 (lv_at hl 4 rfl) ?_
            refine lv_iload hx hb dX3_coatsToWear_74 (lv_at hl 0 rfl) ?_
            refine lv_iconst (v := 1) hx hb dX3_coatsToWear_76 (by decide) ?_
            refine q_rdV (As := [.int (nI t40), .int 1]) (rest := []) (c_X0_sumOf l D cB cI cJ ad n M h nt hv tf (nI t40) 1 h_h h_h_5 h_h_6 m_h m_h_5 m_h_6 h7 hnt) X hK hP hS hl.1 rfl gX3_coatsToWear_X0_sumOf yd_X0_sumOf ⟨Nat.le_of_ble_eq_true rfl, Nat.le_of_ble_eq_true rfl⟩ h_h m_h (ci := 0) rfl rfl (Nat.le_of_ble_eq_true rfl) ⟨Nat.zero_le _, Nat.zero_le _⟩ dX3_coatsToWear_77 ?_
            refine lv_iload_n hx hb dX3_coatsToWear_80 rfl (lv_at hl 8 rfl) ?_
            refine lv_icmp_lt (tgt := 99) hx hb dX3_coatsToWear_81 (by decide) (fun c_81 => ?_) (fun c_81 => ?_)
            · skip
              refine lv_iinc (v := ((nI t40) + 1)) (lv' := [(8, .int ((nI t40) + 1)), (7, .int x40_7), (6, .int x40_6), (5, .int (s_X3_coatsOf nt nc cf tf plf x)), (4, .ref (ad h)), (0, .ref (ad an)), (1, .ref (ad g)), (2, .int x), (3, .int y)]) hx hb dX3_coatsToWear_99 hl (k := 0) rfl rfl (by decide) rfl (fun ls hl => ?_)
              refine lv_goto (tgt := 40) hx hb dX3_coatsToWear_102 (by decide) ?_
              exact ih_40 (t40 + 1) x40_7 x40_6 (by omega) (by omega) (by rw [s_X3_coatsToWear_40, ← e_x40_7, ← e_x40_6, s_X3_coatsToWear_40s, if_pos c_55, if_neg c_69, if_pos c_81]) (by rw [s_X3_coatsToWear_40, ← e_x40_7, ← e_x40_6, s_X3_coatsToWear_40s, if_pos c_55, if_neg c_69, if_pos c_81]) ls (by rw [(show nI (t40 + 1) = nI t40 + 1 by exact nI_succ _)]; exact lv_sub hl [0, 1, 2, 3, 4, 5, 6, 7, 8] rfl)
            · skip
              refine lv_iload hx hb dX3_coatsToWear_84 (lv_at hl 0 rfl) ?_
              refine lv_istore (lv' := [(7, .int (nI t40)), (8, .int (nI t40)), (6, .int x40_6), (5, .int (s_X3_coatsOf nt nc cf tf plf x)), (4, .ref (ad h)), (0, .ref (ad an)), (1, .ref (ad g)), (2, .int x), (3, .int y)]) hx hb dX3_coatsToWear_86 hl (by decide) rfl (fun ls hl => ?_)
              refine lv_aload hx hb dX3_coatsToWear_88 (lv_at hl 4 rfl) ?_
              refine lv_iload hx hb dX3_coatsToWear_90 (lv_at hl 1 rfl) ?_
              refine lv_bipush (v := 6) hx hb dX3_coatsToWear_92 (by decide) ?_
              refine q_rdV (As := [.int (nI t40), .int 6]) (rest := []) (c_X0_sumOf l D cB cI cJ ad n M h nt hv tf (nI t40) 6 h_h h_h_5 h_h_6 m_h m_h_5 m_h_6 h7 hnt) X hK hP hS hl.1 rfl gX3_coatsToWear_X0_sumOf yd_X0_sumOf ⟨Nat.le_of_ble_eq_true rfl, Nat.le_of_ble_eq_true rfl⟩ h_h m_h (ci := 0) rfl rfl (Nat.le_of_ble_eq_true rfl) ⟨Nat.zero_le _, Nat.zero_le _⟩ dX3_coatsToWear_94 ?_
              refine lv_istore (lv' := [(6, .int (smS tf (nI t40) 6 nt)), (7, .int (nI t40)), (8, .int (nI t40)), (5, .int (s_X3_coatsOf nt nc cf tf plf x)), (4, .ref (ad h)), (0, .ref (ad an)), (1, .ref (ad g)), (2, .int x), (3, .int y)]) hx hb dX3_coatsToWear_97 hl (by decide) rfl (fun ls hl => ?_)
              refine lv_iinc (v := ((nI t40) + 1)) (lv' := [(8, .int ((nI t40) + 1)), (6, .int (smS tf (nI t40) 6 nt)), (7, .int (nI t40)), (5, .int (s_X3_coatsOf nt nc cf tf plf x)), (4, .ref (ad h)), (0, .ref (ad an)), (1, .ref (ad g)), (2, .int x), (3, .int y)]) hx hb dX3_coatsToWear_99 hl (k := 2) rfl rfl (by decide) rfl (fun ls hl => ?_)
              refine lv_goto (tgt := 40) hx hb dX3_coatsToWear_102 (by decide) ?_
              exact ih_40 (t40 + 1) (nI t40) (smS tf (nI t40) 6 nt) (by omega) (by omega) (by rw [s_X3_coatsToWear_40, ← e_x40_7, ← e_x40_6, s_X3_coatsToWear_40s, if_pos c_55, if_neg c_69, if_neg c_81]) (by rw [s_X3_coatsToWear_40, ← e_x40_7, ← e_x40_6, s_X3_coatsToWear_40s, if_pos c_55, if_neg c_69, if_neg c_81]) ls (by rw [(show nI (t40 + 1) = nI t40 + 1 by exact nI_succ _)]; exact lv_sub hl [0, 2, 1, 3, 4, 5, 6, 7, 8] rfl)
  exact loop_40 (4096 + 1) 0 (-1) (((tat 12 pf (x * 3 + 2)) - (heS nt tf plf x)) + 1) (by omega) (by omega) (by rfl) (by rfl) ls (lv_sub hl [0, 1, 2, 3, 4, 5, 6, 7, 8] rfl)
set_option maxRecDepth 20000 in
theorem fX3_greatestShare_121 : FL wsX3_greatestShare RX3 121 0 5 := ⟨RX0, TX0, 12, rfl, by decide +kernel, by decide, by decide +kernel⟩
set_option maxRecDepth 20000 in
theorem fX3_greatestShare_112 : FL wsX3_greatestShare RX3 112 0 6 := ⟨RX0, TX0, 12, rfl, by decide +kernel, by decide, by decide +kernel⟩
set_option maxRecDepth 20000 in
theorem fX3_greatestShare_29 : FL wsX3_greatestShare RX3 29 3 7 := ⟨RX3, TX3, 9, rfl, by decide +kernel, by decide, by decide +kernel⟩
set_option maxRecDepth 20000 in
theorem fX3_greatestShare_32 : FL wsX3_greatestShare RX3 32 3 8 := ⟨RX3, TX3, 9, rfl, by decide +kernel, by decide, by decide +kernel⟩
set_option maxRecDepth 20000 in
theorem fX3_greatestShare_103 : FL wsX3_greatestShare RX3 103 0 0 := ⟨RX0, TX0, 12, rfl, by decide +kernel, by decide, by decide +kernel⟩
def s_X3_greatestShare_18s (rwf : Nat → Int32) (wef : Nat → Int32) (t4 : Nat) (t18 : Nat) (x18_4 : Int32) : Int32 := if (tat 5 rwf (nI t18)) = (nI t4) then (x18_4 + (tat 5 wef (nI t18))) else (x18_4 + 0)
def s_X3_greatestShare_18 (rwf : Nat → Int32) (wef : Nat → Int32) (t4 : Nat) (z0 : Int32) : Nat → Int32
  | 0 => z0
  | t + 1 => s_X3_greatestShare_18s rwf wef t4 t (s_X3_greatestShare_18 rwf wef t4 z0 t)
def s_X3_greatestShare_4s (nc : Nat) (pf : Nat → Int32) (rwf : Nat → Int32) (wef : Nat → Int32) (t4 : Nat) (x4_2 : Int32) : Int32 := if (tat 12 pf ((nI t4) * 3 + 0)) ≤ 0 then (imax x4_2 0) else (imax x4_2 (((s_X3_greatestShare_18 rwf wef t4 0 nc) * 1000) / (tat 12 pf ((nI t4) * 3 + 0))))
def s_X3_greatestShare_4 (nc : Nat) (pf : Nat → Int32) (rwf : Nat → Int32) (wef : Nat → Int32) (z0 : Int32) : Nat → Int32
  | 0 => z0
  | t + 1 => s_X3_greatestShare_4s nc pf rwf wef t (s_X3_greatestShare_4 nc pf rwf wef z0 t)
def s_X3_greatestShare (np : Nat) (nc : Nat) (pf : Nat → Int32) (rwf : Nat → Int32) (wef : Nat → Int32) : Int32 := (s_X3_greatestShare_4 nc pf rwf wef 0 np)
set_option maxHeartbeats 4000000 in
set_option maxRecDepth 100000 in
theorem c_X3_greatestShare (l : Launch) (D : va_G) (cB cI cJ : ClassId) (ad : Nat → Nat) (n : Nat) (M : Nat → va_E) (an h np nc : Nat) (tof fk ck : Int32) (hv pf rwf wef : Nat → Int32) (h_an : an < n) (h_an_9 : an + 9 < n) (h_an_10 : an + 10 < n) (h_an_11 : an + 11 < n) (h_an_12 : an + 12 < n) (h_h : h < n) (h_h_1 : h + 1 < n) (h_h_2 : h + 2 < n) (m_an : M an = .inr (3, plansF ad an tof fk ck)) (m_an_9 : M (an + 9) = .inr (8, [.int 1, .ref (ad (an + 10))])) (m_an_10 : M (an + 10) = .inl (cI, 5, .inl rwf)) (m_an_11 : M (an + 11) = .inr (8, [.int 1, .ref (ad (an + 12))])) (m_an_12 : M (an + 12) = .inl (cI, 5, .inl wef)) (m_h : M h = .inr (0, hallF ad h hv)) (m_h_1 : M (h + 1) = .inr (8, [.int 3, .ref (ad (h + 2))])) (m_h_2 : M (h + 2) = .inl (cI, 12, .inl pf)) (h6 : hv 6 = nI nc) (hnc : nc ≤ 5) (h5 : hv 5 = nI np) (hnp : np ≤ 4) : cR l D cB cI cJ ad n M yX3_greatestShare wsX3_greatestShare 1 23 [.ref (ad an), .ref (ad h)] (s_X3_greatestShare np nc pf rwf wef) := by
  refine q_body (cc := cX3_greatestShare) (maxL := 6) (ret := (some .int)) (by decide) rfl (Nat.le_of_ble_eq_true rfl) ?_
  intro p e s m args below meth c ls X hr hlocks hK hP hl
  obtain ⟨hx, hb, hml, hown, hts⟩ := id X
  have hS : va_S (ipA ad n) s.heap s.heap [] := va_S.rf
  have hl : lv_has ls 6 [(0, .ref (ad an)), (1, .ref (ad h))] := hl
  refine lv_iconst (v := 0) hx hb dX3_greatestShare_0 (by decide) ?_
  refine lv_istore_n (lv' := [(2, .int 0), (0, .ref (ad an)), (1, .ref (ad h))]) hx hb dX3_greatestShare_1 rfl hl (by decide) rfl (fun ls hl => ?_)
  refine lv_iconst (v := 0) hx hb dX3_greatestShare_2 (by decide) ?_
  refine lv_istore_n (lv' := [(3, .int 0), (2, .int 0), (0, .ref (ad an)), (1, .ref (ad h))]) hx hb dX3_greatestShare_3 rfl hl (by decide) rfl (fun ls hl => ?_)
  have loop_4 : ∀ (fuel : Nat) (t4 : Nat) (x4_2 : Int32), np - (t4) < fuel → t4 ≤ np → x4_2 = (s_X3_greatestShare_4 nc pf rwf wef 0 t4) → ∀ (ls : Array Slot), lv_has ls 6 [(3, .int (nI t4)), (2, .int x4_2), (0, .ref (ad an)), (1, .ref (ad h))] → W p l e (rmOf 1 23) s m args below meth c s.heap [] 0 0 (MQ below (vp_Si (fun r9 => r9 = s_X3_greatestShare np nc pf rwf wef)) args s 0 0 (fun _ => False)) (F0 m 4 ls []) := by
    intro fuel
    induction fuel with
    | zero =>
      intro t4 x4_2 hz
      exact absurd hz (Nat.not_lt_zero _)
    | succ fuel ih_4 =>
      intro t4 x4_2 hz_4 h_t4 e_x4_2 ls hl
      skip
      refine lv_iload_n hx hb dX3_greatestShare_4 rfl (lv_at hl 0 rfl) ?_
      refine lv_aload_n hx hb dX3_greatestShare_5 rfl (lv_at hl 3 rfl) ?_
      refine q_get (v := .int (hv 5)) (fs := hallF ad h hv) X hK hP fX3_greatestShare_121 h_h m_h rfl dX3_greatestShare_6 ?_
      refine lv_icmp_ge (tgt := 104) hx hb dX3_greatestShare_9 (by decide) (fun c_9 => ?_) (fun c_9 => ?_)
      · rw [h5] at c_9
        have h9_4 : t4 = np := eq_of_le (t := t4) (k := np) c_9 (by omega) h_t4
        subst t4
        subst e_x4_2
        refine lv_iload_n hx hb dX3_greatestShare_104 rfl (lv_at hl 1 rfl) ?_
        exact q_iret hb hx hr hlocks (by rfl) dX3_greatestShare_105
      · rw [h5] at c_9
        have h9_4 : t4 < np := lt_of_nlt (t := t4) (k := np) c_9 (by omega) h_t4
        refine lv_iconst (v := 0) hx hb dX3_greatestShare_12 (by decide) ?_
        refine lv_istore (lv' := [(4, .int 0), (3, .int (nI t4)), (2, .int x4_2), (0, .ref (ad an)), (1, .ref (ad h))]) hx hb dX3_greatestShare_13 hl (by decide) rfl (fun ls hl => ?_)
        refine lv_iconst (v := 0) hx hb dX3_greatestShare_15 (by decide) ?_
        refine lv_istore (lv' := [(5, .int 0), (4, .int 0), (3, .int (nI t4)), (2, .int x4_2), (0, .ref (ad an)), (1, .ref (ad h))]) hx hb dX3_greatestShare_16 hl (by decide) rfl (fun ls hl => ?_)
        have loop_18 : ∀ (fuel : Nat) (t18 : Nat) (x18_4 : Int32), nc - (t18) < fuel → t18 ≤ nc → x18_4 = (s_X3_greatestShare_18 rwf wef t4 0 t18) → ∀ (ls : Array Slot), lv_has ls 6 [(5, .int (nI t18)), (4, .int x18_4), (3, .int (nI t4)), (2, .int x4_2), (0, .ref (ad an)), (1, .ref (ad h))] → W p l e (rmOf 1 23) s m args below meth c s.heap [] 0 0 (MQ below (vp_Si (fun r9 => r9 = s_X3_greatestShare np nc pf rwf wef)) args s 0 0 (fun _ => False)) (F0 m 18 ls []) := by
          intro fuel
          induction fuel with
          | zero =>
            intro t18 x18_4 hz
            exact absurd hz (Nat.not_lt_zero _)
          | succ fuel ih_18 =>
            intro t18 x18_4 hz_18 h_t18 e_x18_4 ls hl
            skip
            refine lv_iload hx hb dX3_greatestShare_18 (lv_at hl 0 rfl) ?_
            refine lv_aload_n hx hb dX3_greatestShare_20 rfl (lv_at hl 5 rfl) ?_
            refine q_get (v := .int (hv 6)) (fs := hallF ad h hv) X hK hP fX3_greatestShare_112 h_h m_h rfl dX3_greatestShare_21 ?_
            refine lv_icmp_ge (tgt := 64) hx hb dX3_greatestShare_24 (by decide) (fun c_24 => ?_) (fun c_24 => ?_)
            · rw [h6] at c_24
              have h9_18 : t18 = nc := eq_of_le (t := t18) (k := nc) c_24 (by omega) h_t18
              subst t18
              subst e_x18_4
              refine lv_aload_n hx hb dX3_greatestShare_64 rfl (lv_at hl 5 rfl) ?_
              refine q_get (v := .ref (ad (h + 1))) (fs := hallF ad h hv) X hK hP fX3_greatestShare_103 h_h m_h rfl dX3_greatestShare_65 ?_
              refine lv_iload_n hx hb dX3_greatestShare_68 rfl (lv_at hl 2 rfl) ?_
              refine lv_iconst (v := 0) hx hb dX3_greatestShare_69 (by decide) ?_
              refine q_rdV (As := [.int (nI t4), .int 0]) (rest := []) (c_X8_at_ l D cB cI cJ ad n M (h + 1) (h + 2) 12 3 pf (nI t4) 0 h_h_1 h_h_2 m_h_1 m_h_2 (by decide)) X hK hP hS hl.1 rfl gX3_greatestShare_X8_at_ yd_X8_at_ ⟨Nat.le_of_ble_eq_true rfl, Nat.le_of_ble_eq_true rfl⟩ h_h_1 m_h_1 (ci := 8) rfl rfl (Nat.le_of_ble_eq_true rfl) ⟨Nat.zero_le _, Nat.zero_le _⟩ dX3_greatestShare_70 ?_
              refine lv_istore (lv' := [(5, .int (tat 12 pf ((nI t4) * 3 + 0))), (4, .int (s_X3_greatestShare_18 rwf wef t4 0 nc)), (3, .int (nI t4)), (2, .int x4_2), (0, .ref (ad an)), (1, .ref (ad h))]) hx hb dX3_greatestShare_73 hl (by decide) rfl (fun ls hl => ?_)
              refine lv_iload_n hx hb dX3_greatestShare_75 rfl (lv_at hl 3 rfl) ?_
              refine lv_iload hx hb dX3_greatestShare_76 (lv_at hl 0 rfl) ?_
              refine lv_if_le (tgt := 93) hx hb dX3_greatestShare_78 (by decide) (fun c_78 => ?_) (fun c_78 => ?_)
              · skip
                refine lv_iconst (v := 0) hx hb dX3_greatestShare_93 (by decide) ?_
                refine q_max X hl.1 (by decide +kernel) (by decide +kernel) (by decide +kernel) (by decide +kernel) ⟨Nat.le_of_ble_eq_true rfl, Nat.le_of_ble_eq_true rfl⟩ (Nat.le_of_ble_eq_true rfl) ⟨Nat.zero_le _, Nat.zero_le _⟩ dX3_greatestShare_94 ?_
                refine lv_istore_n (lv' := [(2, .int (imax x4_2 0)), (5, .int (tat 12 pf ((nI t4) * 3 + 0))), (4, .int (s_X3_greatestShare_18 rwf wef t4 0 nc)), (3, .int (nI t4)), (0, .ref (ad an)), (1, .ref (ad h))]) hx hb dX3_greatestShare_97 rfl hl (by decide) rfl (fun ls hl => ?_)
                refine lv_iinc (v := ((nI t4) + 1)) (lv' := [(3, .int ((nI t4) + 1)), (2, .int (imax x4_2 0)), (5, .int (tat 12 pf ((nI t4) * 3 + 0))), (4, .int (s_X3_greatestShare_18 rwf wef t4 0 nc)), (0, .ref (ad an)), (1, .ref (ad h))]) hx hb dX3_greatestShare_98 hl (k := 3) rfl rfl (by decide) rfl (fun ls hl => ?_)
                refine lv_goto (tgt := 4) hx hb dX3_greatestShare_101 (by decide) ?_
                exact ih_4 (t4 + 1) (imax x4_2 0) (by omega) (by omega) (by rw [s_X3_greatestShare_4, ← e_x4_2, s_X3_greatestShare_4s, if_pos c_78]) ls (by rw [(show nI (t4 + 1) = nI t4 + 1 by exact nI_succ _)]; exact lv_sub hl [0, 1, 4, 5] rfl)
              · skip
                refine lv_iload hx hb dX3_greatestShare_81 (lv_at hl 1 rfl) ?_
                refine lv_sipush (v := 1000) hx hb dX3_greatestShare_83 (by decide) ?_
                refine lv_imul hx hb dX3_greatestShare_86 ?_
                refine lv_iload hx hb dX3_greatestShare_87 (lv_at hl 0 rfl) ?_
                refine lv_idiv hx hb dX3_greatestShare_89 (ne_of_pos c_78) ?_
                refine lv_goto (tgt := 94) hx hb dX3_greatestShare_90 (by decide) ?_
                refine q_max X hl.1 (by decide +kernel) (by decide +kernel) (by decide +kernel) (by decide +kernel) ⟨Nat.le_of_ble_eq_true rfl, Nat.le_of_ble_eq_true rfl⟩ (Nat.le_of_ble_eq_true rfl) ⟨Nat.zero_le _, Nat.zero_le _⟩ dX3_greatestShare_94 ?_
                refine lv_istore_n (lv' := [(2, .int (imax x4_2 (((s_X3_greatestShare_18 rwf wef t4 0 nc) * 1000) / (tat 12 pf ((nI t4) * 3 + 0))))), (5, .int (tat 12 pf ((nI t4) * 3 + 0))), (4, .int (s_X3_greatestShare_18 rwf wef t4 0 nc)), (3, .int (nI t4)), (0, .ref (ad an)), (1, .ref (ad h))]) hx hb dX3_greatestShare_97 rfl hl (by decide) rfl (fun ls hl => ?_)
                refine lv_iinc (v := ((nI t4) + 1)) (lv' := [(3, .int ((nI t4) + 1)), (2, .int (imax x4_2 (((s_X3_greatestShare_18 rwf wef t4 0 nc) * 1000) / (tat 12 pf ((nI t4) * 3 + 0))))), (5, .int (tat 12 pf ((nI t4) * 3 + 0))), (4, .int (s_X3_greatestShare_18 rwf wef t4 0 nc)), (0, .ref (ad an)), (1, .ref (ad h))]) hx hb dX3_greatestShare_98 hl (k := 3) rfl rfl (by decide) rfl (fun ls hl => ?_)
                refine lv_goto (tgt := 4) hx hb dX3_greatestShare_101 (by decide) ?_
                exact ih_4 (t4 + 1) (imax x4_2 (((s_X3_greatestShare_18 rwf wef t4 0 nc) * 1000) / (tat 12 pf ((nI t4) * 3 + 0)))) (by omega) (by omega) (by rw [s_X3_greatestShare_4, ← e_x4_2, s_X3_greatestShare_4s, if_neg c_78]) ls (by rw [(show nI (t4 + 1) = nI t4 + 1 by exact nI_succ _)]; exact lv_sub hl [0, 1, 4, 5] rfl)
            · rw [h6] at c_24
              have h9_18 : t18 < nc := lt_of_nlt (t := t18) (k := nc) c_24 (by omega) h_t18
              refine lv_iload hx hb dX3_greatestShare_27 (lv_at hl 1 rfl) ?_
              refine lv_aload_n hx hb dX3_greatestShare_29 rfl (lv_at hl 4 rfl) ?_
              refine q_get (v := .ref (ad (an + 9))) (fs := plansF ad an tof fk ck) X hK hP fX3_greatestShare_29 h_an m_an rfl dX3_greatestShare_30 ?_
              refine lv_iload hx hb dX3_greatestShare_33 (lv_at hl 0 rfl) ?_
              refine q_rdV (As := [.int (nI t18)]) (rest := [.int x18_4]) (c_X8_at l D cB cI cJ ad n M (an + 9) (an + 10) 5 1 rwf (nI t18) h_an_9 h_an_10 m_an_9 m_an_10 (by decide)) X hK hP hS hl.1 rfl gX3_greatestShare_X8_at yd_X8_at ⟨Nat.le_of_ble_eq_true rfl, Nat.le_of_ble_eq_true rfl⟩ h_an_9 m_an_9 (ci := 8) rfl rfl (Nat.le_of_ble_eq_true rfl) ⟨Nat.zero_le _, Nat.zero_le _⟩ dX3_greatestShare_35 ?_
              refine lv_iload_n hx hb dX3_greatestShare_38 rfl (lv_at hl 2 rfl) ?_
              refine lv_icmp_ne (tgt := 54) hx hb dX3_greatestShare_39 (by decide) (fun c_39 => ?_) (fun c_39 => ?_)
              · skip
                refine lv_iconst (v := 0) hx hb dX3_greatestShare_54 (by decide) ?_
                refine lv_iadd hx hb dX3_greatestShare_55 ?_
                refine lv_istore (lv' := [(4, .int (x18_4 + 0)), (5, .int (nI t18)), (3, .int (nI t4)), (2, .int x4_2), (0, .ref (ad an)), (1, .ref (ad h))]) hx hb dX3_greatestShare_56 hl (by decide) rfl (fun ls hl => ?_)
                refine lv_iinc (v := ((nI t18) + 1)) (lv' := [(5, .int ((nI t18) + 1)), (4, .int (x18_4 + 0)), (3, .int (nI t4)), (2, .int x4_2), (0, .ref (ad an)), (1, .ref (ad h))]) hx hb dX3_greatestShare_58 hl (k := 1) rfl rfl (by decide) rfl (fun ls hl => ?_)
                refine lv_goto (tgt := 18) hx hb dX3_greatestShare_61 (by decide) ?_
                exact ih_18 (t18 + 1) (x18_4 + 0) (by omega) (by omega) (by rw [s_X3_greatestShare_18, ← e_x18_4, s_X3_greatestShare_18s, if_neg c_39]) ls (by rw [(show nI (t18 + 1) = nI t18 + 1 by exact nI_succ _)]; exact lv_sub hl [0, 1, 2, 3, 4, 5] rfl)
              · skip
                refine lv_aload_n hx hb dX3_greatestShare_42 rfl (lv_at hl 4 rfl) ?_
                refine q_get (v := .ref (ad (an + 11))) (fs := plansF ad an tof fk ck) X hK hP fX3_greatestShare_32 h_an m_an rfl dX3_greatestShare_43 ?_
                refine lv_iload hx hb dX3_greatestShare_46 (lv_at hl 0 rfl) ?_
                refine q_rdV (As := [.int (nI t18)]) (rest := [.int x18_4]) (c_X8_at l D cB cI cJ ad n M (an + 11) (an + 12) 5 1 wef (nI t18) h_an_11 h_an_12 m_an_11 m_an_12 (by decide)) X hK hP hS hl.1 rfl gX3_greatestShare_X8_at yd_X8_at ⟨Nat.le_of_ble_eq_true rfl, Nat.le_of_ble_eq_true rfl⟩ h_an_11 m_an_11 (ci := 8) rfl rfl (Nat.le_of_ble_eq_true rfl) ⟨Nat.zero_le _, Nat.zero_le _⟩ dX3_greatestShare_48 ?_
                refine lv_goto (tgt := 55) hx hb dX3_greatestShare_51 (by decide) ?_
                refine lv_iadd hx hb dX3_greatestShare_55 ?_
                refine lv_istore (lv' := [(4, .int (x18_4 + (tat 5 wef (nI t18)))), (5, .int (nI t18)), (3, .int (nI t4)), (2, .int x4_2), (0, .ref (ad an)), (1, .ref (ad h))]) hx hb dX3_greatestShare_56 hl (by decide) rfl (fun ls hl => ?_)
                refine lv_iinc (v := ((nI t18) + 1)) (lv' := [(5, .int ((nI t18) + 1)), (4, .int (x18_4 + (tat 5 wef (nI t18)))), (3, .int (nI t4)), (2, .int x4_2), (0, .ref (ad an)), (1, .ref (ad h))]) hx hb dX3_greatestShare_58 hl (k := 1) rfl rfl (by decide) rfl (fun ls hl => ?_)
                refine lv_goto (tgt := 18) hx hb dX3_greatestShare_61 (by decide) ?_
                exact ih_18 (t18 + 1) (x18_4 + (tat 5 wef (nI t18))) (by omega) (by omega) (by rw [s_X3_greatestShare_18, ← e_x18_4, s_X3_greatestShare_18s, if_pos c_39]) ls (by rw [(show nI (t18 + 1) = nI t18 + 1 by exact nI_succ _)]; exact lv_sub hl [0, 1, 2, 3, 4, 5] rfl)
        exact loop_18 (nc + 1) 0 0 (by omega) (by omega) (by rfl) ls (lv_sub hl [0, 1, 2, 3, 4, 5] rfl)
  exact loop_4 (np + 1) 0 0 (by omega) (by omega) (by rfl) ls (lv_sub hl [0, 1, 2, 3] rfl)
