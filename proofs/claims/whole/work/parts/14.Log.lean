/-! PoundsOver$Log -/
theorem eq_of_lt {t k : Nat} (h : nI k < nI t) (hk : k < 2 ^ 30) (ht : t ≤ k + 1) : t = k + 1 := Nat.le_antisymm ht ((nI_ltI (by omega) (by omega)).mp h)
theorem le_of_nlt {t k : Nat} (h : ¬ nI k < nI t) (hk : k < 2 ^ 30) (ht : t ≤ k + 1) : t < k + 1 := Nat.lt_of_not_le (fun q => h ((nI_ltI (by omega) (by omega)).mpr q))
set_option maxRecDepth 20000 in
theorem fX1_begin_26 : FL wsX1_begin RX1 26 1 1 := ⟨RX1, TX1, 5, rfl, by decide +kernel, by decide, by decide +kernel⟩
theorem fw_1_1 : FW 1 1 .int := ⟨RX1, TX1, 5, tyX1, rfl, tyX1_ok, nmX1, by decide, rfl, by decide +kernel⟩
set_option maxRecDepth 20000 in
theorem fX1_begin_30 : FL wsX1_begin RX1 30 1 3 := ⟨RX1, TX1, 5, rfl, by decide +kernel, by decide, by decide +kernel⟩
theorem fw_1_3 : FW 1 3 .int := ⟨RX1, TX1, 5, tyX1, rfl, tyX1_ok, nmX1, by decide, rfl, by decide +kernel⟩
set_option maxHeartbeats 4000000 in
set_option maxRecDepth 100000 in
theorem c_X1_begin (l : Launch) (D : va_G) (cB cI cJ : ClassId) (ad : Nat → Nat) (n : Nat) (M : Nat → va_E) (hI : ipI ad n) (o : Nat) (ak sk : Int32) (h_o : o < n) (m_o : M o = .inr (1, logF ad o ak sk))  : cWv l D cB cI cJ ad n M yX1_begin wsX1_begin 0 0 [.ref (ad o)] (fun M' => M' o = .inr (1, logF ad o 0 0) ∧ ∀ q : Nat, q ≠ o → M' q = M q) := by
  refine q_body (cc := cX1_begin) (maxL := 1) (ret := none) (by decide) rfl (Nat.le_of_ble_eq_true rfl) ?_
  intro p e s m args below meth c ls X hr hlocks hK hP hl
  obtain ⟨hx, hb, hml, hown, hts⟩ := id X
  have hS : va_S (ipA ad n) s.heap s.heap [] := va_S.rf
  have hl : lv_has ls 1 [(0, .ref (ad o))] := hl
  refine lv_aload_n hx hb dX1_begin_0 rfl (lv_at hl 0 rfl) ?_
  refine lv_iconst (v := 0) hx hb dX1_begin_1 (by decide) ?_
  refine q_put (fs := logF ad o ak sk) (fs' := logF ad o 0 sk) X hK hI hP hS fX1_begin_26 fw_1_1 h_o m_o rfl rfl (Nat.le_of_ble_eq_true rfl) rfl dX1_begin_2 (fun H locs hP hS => ?_)
  refine lv_aload_n hx hb dX1_begin_5 rfl (lv_at hl 0 rfl) ?_
  refine lv_iconst (v := 0) hx hb dX1_begin_6 (by decide) ?_
  refine q_put (fs := logF ad o 0 sk) (fs' := logF ad o 0 0) X hK hI hP hS fX1_begin_30 fw_1_3 h_o (va_up_self M o (.inr (1, logF ad o 0 sk))) rfl rfl (Nat.le_of_ble_eq_true rfl) rfl dX1_begin_7 (fun H locs hP hS => ?_)
  exact q_wvret X hr hlocks hP hS ⟨(va_up_self (va_up M o (.inr (1, logF ad o 0 sk))) o (.inr (1, logF ad o 0 0))), (fun q n0 => ((va_up_ne _ _ n0).trans (va_up_ne _ _ n0)))⟩ dX1_begin_10
set_option maxRecDepth 20000 in
theorem fX1_become_14 : FL wsX1_become RX1 14 1 0 := ⟨RX1, TX1, 5, rfl, by decide +kernel, by decide, by decide +kernel⟩
set_option maxRecDepth 20000 in
theorem fX1_become_26 : FL wsX1_become RX1 26 1 1 := ⟨RX1, TX1, 5, rfl, by decide +kernel, by decide, by decide +kernel⟩
set_option maxRecDepth 20000 in
theorem fX1_become_20 : FL wsX1_become RX1 20 1 2 := ⟨RX1, TX1, 5, rfl, by decide +kernel, by decide, by decide +kernel⟩
set_option maxRecDepth 20000 in
theorem fX1_become_30 : FL wsX1_become RX1 30 1 3 := ⟨RX1, TX1, 5, rfl, by decide +kernel, by decide, by decide +kernel⟩
set_option maxRecDepth 20000 in
theorem fX1_become_23 : FL wsX1_become RX1 23 1 4 := ⟨RX1, TX1, 5, rfl, by decide +kernel, by decide, by decide +kernel⟩
set_option maxHeartbeats 4000000 in
set_option maxRecDepth 100000 in
theorem c_X1_become (l : Launch) (D : va_G) (cB cI cJ : ClassId) (ad : Nat → Nat) (n : Nat) (M : Nat → va_E) (hI : ipI ad n) (o o2 : Nat) (ak sk ak2 sk2 : Int32) (af sf tf2 af2 sf2 tf3 : Nat → Int32) (h_o : o < n) (h_o_1 : o + 1 < n) (h_o_2 : o + 2 < n) (h_o_3 : o + 3 < n) (h_o_4 : o + 4 < n) (h_o_5 : o + 5 < n) (h_o_6 : o + 6 < n) (h_o2 : o2 < n) (h_o2_1 : o2 + 1 < n) (h_o2_2 : o2 + 2 < n) (h_o2_3 : o2 + 3 < n) (h_o2_4 : o2 + 4 < n) (h_o2_5 : o2 + 5 < n) (h_o2_6 : o2 + 6 < n) (m_o : M o = .inr (1, logF ad o ak sk)) (m_o_1 : M (o + 1) = .inr (8, [.int 3, .ref (ad (o + 2))])) (m_o_2 : M (o + 2) = .inl (cI, 120, .inl af)) (m_o_3 : M (o + 3) = .inr (8, [.int 2, .ref (ad (o + 4))])) (m_o_4 : M (o + 4) = .inl (cI, 12, .inl sf)) (m_o_5 : M (o + 5) = .inr (8, [.int 1, .ref (ad (o + 6))])) (m_o_6 : M (o + 6) = .inl (cI, 3, .inl tf2)) (m_o2 : M o2 = .inr (1, logF ad o2 ak2 sk2)) (m_o2_1 : M (o2 + 1) = .inr (8, [.int 3, .ref (ad (o2 + 2))])) (m_o2_2 : M (o2 + 2) = .inl (cI, 120, .inl af2)) (m_o2_3 : M (o2 + 3) = .inr (8, [.int 2, .ref (ad (o2 + 4))])) (m_o2_4 : M (o2 + 4) = .inl (cI, 12, .inl sf2)) (m_o2_5 : M (o2 + 5) = .inr (8, [.int 1, .ref (ad (o2 + 6))])) (m_o2_6 : M (o2 + 6) = .inl (cI, 3, .inl tf3)) (hoo : o + 6 < o2 ∨ o2 + 6 < o) : cWv l D cB cI cJ ad n M yX1_become wsX1_become 2 43 [.ref (ad o), .ref (ad o2)] (fun M' => M' (o + 2) = .inl (cI, 120, .inl (fun q => tat 120 af2 (nI q))) ∧ M' (o + 4) = .inl (cI, 12, .inl (fun q => tat 12 sf2 (nI q))) ∧ M' o = .inr (1, logF ad o ak2 sk2) ∧ M' (o + 6) = .inl (cI, 3, .inl (fun q => tat 3 tf3 (nI q))) ∧ ∀ q : Nat, q ≠ o + 2 → q ≠ o + 4 → q ≠ o → q ≠ o + 6 → M' q = M q) := by
  refine q_body (cc := cX1_become) (maxL := 2) (ret := none) (by decide) rfl (Nat.le_of_ble_eq_true rfl) ?_
  intro p e s m args below meth c ls X hr hlocks hK hP hl
  obtain ⟨hx, hb, hml, hown, hts⟩ := id X
  have hS : va_S (ipA ad n) s.heap s.heap [] := va_S.rf
  have hl : lv_has ls 2 [(0, .ref (ad o)), (1, .ref (ad o2))] := hl
  refine lv_aload_n hx hb dX1_become_0 rfl (lv_at hl 0 rfl) ?_
  refine q_get (v := .ref (ad (o + 1))) (fs := logF ad o ak sk) X hK hP fX1_become_14 h_o m_o rfl dX1_become_1 ?_
  refine lv_aload_n hx hb dX1_become_4 rfl (lv_at hl 1 rfl) ?_
  refine q_get (v := .ref (ad (o2 + 1))) (fs := logF ad o2 ak2 sk2) X hK hP fX1_become_14 h_o2 m_o2 rfl dX1_become_5 ?_
  refine q_wrVv (As := [.ref (ad (o2 + 1))]) (rest := []) (c_X8_become l D cB cI cJ ad n M hI (o + 1) (o + 2) 120 (o2 + 1) (o2 + 2) 120 3 3 af af2 h_o_1 h_o_2 h_o2_1 h_o2_2 m_o_1 m_o_2 m_o2_1 m_o2_2 (by decide) (by decide) (by first | assumption | omega | exact vp_in_nI (by omega) (by decide) | exact vp_in_iff.mpr (by decide))) X hK hP hS hl.1 rfl gX1_become_X8_become yd_X8_become ⟨Nat.le_of_ble_eq_true rfl, Nat.le_of_ble_eq_true rfl⟩ h_o_1 m_o_1 (ci := 8) rfl rfl (Nat.le_of_ble_eq_true rfl) ⟨Nat.zero_le _, Nat.zero_le _⟩ dX1_become_8 (fun M2 H locs hp1 hP hS => ?_)
  obtain ⟨g4, fr5⟩ := hp1
  refine lv_aload_n hx hb dX1_become_11 rfl (lv_at hl 0 rfl) ?_
  refine lv_aload_n hx hb dX1_become_12 rfl (lv_at hl 1 rfl) ?_
  refine q_get (v := .int ak2) (fs := logF ad o2 ak2 sk2) X hK hP fX1_become_26 h_o2 ((fr5 o2 (by omega)).trans m_o2) rfl dX1_become_13 ?_
  refine q_put (fs := logF ad o ak sk) (fs' := logF ad o ak2 sk) X hK hI hP hS fX1_become_26 fw_1_1 h_o ((fr5 o (by omega)).trans m_o) rfl rfl (Nat.le_of_ble_eq_true rfl) rfl dX1_become_16 (fun H locs hP hS => ?_)
  refine lv_aload_n hx hb dX1_become_19 rfl (lv_at hl 0 rfl) ?_
  refine q_get (v := .ref (ad (o + 3))) (fs := logF ad o ak2 sk) X hK hP fX1_become_20 h_o (va_up_self M2 o (.inr (1, logF ad o ak2 sk))) rfl dX1_become_20 ?_
  refine lv_aload_n hx hb dX1_become_23 rfl (lv_at hl 1 rfl) ?_
  refine q_get (v := .ref (ad (o2 + 3))) (fs := logF ad o2 ak2 sk2) X hK hP fX1_become_20 h_o2 ((va_up_ne M2 (.inr (1, logF ad o ak2 sk)) (show o2 ≠ o by omega)).trans ((fr5 o2 (by omega)).trans m_o2)) rfl dX1_become_24 ?_
  refine q_wrVv (As := [.ref (ad (o2 + 3))]) (rest := []) (c_X8_become l D cB cI cJ ad n (va_up M2 o (.inr (1, logF ad o ak2 sk))) hI (o + 3) (o + 4) 12 (o2 + 3) (o2 + 4) 12 2 2 sf sf2 h_o_3 h_o_4 h_o2_3 h_o2_4 ((va_up_ne M2 (.inr (1, logF ad o ak2 sk)) (show o + 3 ≠ o by omega)).trans ((fr5 (o + 3) (by omega)).trans m_o_3)) ((va_up_ne M2 (.inr (1, logF ad o ak2 sk)) (show o + 4 ≠ o by omega)).trans ((fr5 (o + 4) (by omega)).trans m_o_4)) ((va_up_ne M2 (.inr (1, logF ad o ak2 sk)) (show o2 + 3 ≠ o by omega)).trans ((fr5 (o2 + 3) (by omega)).trans m_o2_3)) ((va_up_ne M2 (.inr (1, logF ad o ak2 sk)) (show o2 + 4 ≠ o by omega)).trans ((fr5 (o2 + 4) (by omega)).trans m_o2_4)) (by decide) (by decide) (by first | assumption | omega | exact vp_in_nI (by omega) (by decide) | exact vp_in_iff.mpr (by decide))) X hK hP hS hl.1 rfl gX1_become_X8_become yd_X8_become ⟨Nat.le_of_ble_eq_true rfl, Nat.le_of_ble_eq_true rfl⟩ h_o_3 ((va_up_ne M2 (.inr (1, logF ad o ak2 sk)) (show o + 3 ≠ o by omega)).trans ((fr5 (o + 3) (by omega)).trans m_o_3)) (ci := 8) rfl rfl (Nat.le_of_ble_eq_true rfl) ⟨Nat.zero_le _, Nat.zero_le _⟩ dX1_become_27 (fun M9 H locs hp8 hP hS => ?_)
  obtain ⟨g11, fr12⟩ := hp8
  refine lv_aload_n hx hb dX1_become_30 rfl (lv_at hl 0 rfl) ?_
  refine lv_aload_n hx hb dX1_become_31 rfl (lv_at hl 1 rfl) ?_
  refine q_get (v := .int sk2) (fs := logF ad o2 ak2 sk2) X hK hP fX1_become_30 h_o2 ((fr12 o2 (by omega)).trans ((va_up_ne M2 (.inr (1, logF ad o ak2 sk)) (show o2 ≠ o by omega)).trans ((fr5 o2 (by omega)).trans m_o2))) rfl dX1_become_32 ?_
  refine q_put (fs := logF ad o ak2 sk) (fs' := logF ad o ak2 sk2) X hK hI hP hS fX1_become_30 fw_1_3 h_o ((fr12 o (by omega)).trans (va_up_self M2 o (.inr (1, logF ad o ak2 sk)))) rfl rfl (Nat.le_of_ble_eq_true rfl) rfl dX1_become_35 (fun H locs hP hS => ?_)
  refine lv_aload_n hx hb dX1_become_38 rfl (lv_at hl 0 rfl) ?_
  refine q_get (v := .ref (ad (o + 5))) (fs := logF ad o ak2 sk2) X hK hP fX1_become_23 h_o (va_up_self M9 o (.inr (1, logF ad o ak2 sk2))) rfl dX1_become_39 ?_
  refine lv_aload_n hx hb dX1_become_42 rfl (lv_at hl 1 rfl) ?_
  refine q_get (v := .ref (ad (o2 + 5))) (fs := logF ad o2 ak2 sk2) X hK hP fX1_become_23 h_o2 ((va_up_ne M9 (.inr (1, logF ad o ak2 sk2)) (show o2 ≠ o by omega)).trans ((fr12 o2 (by omega)).trans ((va_up_ne M2 (.inr (1, logF ad o ak2 sk)) (show o2 ≠ o by omega)).trans ((fr5 o2 (by omega)).trans m_o2)))) rfl dX1_become_43 ?_
  refine q_wrVv (As := [.ref (ad (o2 + 5))]) (rest := []) (c_X8_become l D cB cI cJ ad n (va_up M9 o (.inr (1, logF ad o ak2 sk2))) hI (o + 5) (o + 6) 3 (o2 + 5) (o2 + 6) 3 1 1 tf2 tf3 h_o_5 h_o_6 h_o2_5 h_o2_6 ((va_up_ne M9 (.inr (1, logF ad o ak2 sk2)) (show o + 5 ≠ o by omega)).trans ((fr12 (o + 5) (by omega)).trans ((va_up_ne M2 (.inr (1, logF ad o ak2 sk)) (show o + 5 ≠ o by omega)).trans ((fr5 (o + 5) (by omega)).trans m_o_5)))) ((va_up_ne M9 (.inr (1, logF ad o ak2 sk2)) (show o + 6 ≠ o by omega)).trans ((fr12 (o + 6) (by omega)).trans ((va_up_ne M2 (.inr (1, logF ad o ak2 sk)) (show o + 6 ≠ o by omega)).trans ((fr5 (o + 6) (by omega)).trans m_o_6)))) ((va_up_ne M9 (.inr (1, logF ad o ak2 sk2)) (show o2 + 5 ≠ o by omega)).trans ((fr12 (o2 + 5) (by omega)).trans ((va_up_ne M2 (.inr (1, logF ad o ak2 sk)) (show o2 + 5 ≠ o by omega)).trans ((fr5 (o2 + 5) (by omega)).trans m_o2_5)))) ((va_up_ne M9 (.inr (1, logF ad o ak2 sk2)) (show o2 + 6 ≠ o by omega)).trans ((fr12 (o2 + 6) (by omega)).trans ((va_up_ne M2 (.inr (1, logF ad o ak2 sk)) (show o2 + 6 ≠ o by omega)).trans ((fr5 (o2 + 6) (by omega)).trans m_o2_6)))) (by decide) (by decide) (by first | assumption | omega | exact vp_in_nI (by omega) (by decide) | exact vp_in_iff.mpr (by decide))) X hK hP hS hl.1 rfl gX1_become_X8_become yd_X8_become ⟨Nat.le_of_ble_eq_true rfl, Nat.le_of_ble_eq_true rfl⟩ h_o_5 ((va_up_ne M9 (.inr (1, logF ad o ak2 sk2)) (show o + 5 ≠ o by omega)).trans ((fr12 (o + 5) (by omega)).trans ((va_up_ne M2 (.inr (1, logF ad o ak2 sk)) (show o + 5 ≠ o by omega)).trans ((fr5 (o + 5) (by omega)).trans m_o_5)))) (ci := 8) rfl rfl (Nat.le_of_ble_eq_true rfl) ⟨Nat.zero_le _, Nat.zero_le _⟩ dX1_become_46 (fun M16 H locs hp15 hP hS => ?_)
  obtain ⟨g18, fr19⟩ := hp15
  exact q_wvret X hr hlocks hP hS ⟨((fr19 (o + 2) (by omega)).trans ((va_up_ne M9 (.inr (1, logF ad o ak2 sk2)) (show o + 2 ≠ o by omega)).trans ((fr12 (o + 2) (by omega)).trans ((va_up_ne M2 (.inr (1, logF ad o ak2 sk)) (show o + 2 ≠ o by omega)).trans g4)))), ((fr19 (o + 4) (by omega)).trans ((va_up_ne M9 (.inr (1, logF ad o ak2 sk2)) (show o + 4 ≠ o by omega)).trans g11)), ((fr19 o (by omega)).trans (va_up_self M9 o (.inr (1, logF ad o ak2 sk2)))), g18, (fun q n0 n1 n2 n3 => ((fr19 q n3).trans ((va_up_ne _ _ n2).trans ((fr12 q n1).trans ((va_up_ne _ _ n2).trans (fr5 q n0))))))⟩ dX1_become_49
set_option maxRecDepth 20000 in
theorem fX1_refuse_23 : FL wsX1_refuse RX1 23 1 4 := ⟨RX1, TX1, 5, rfl, by decide +kernel, by decide, by decide +kernel⟩
set_option maxHeartbeats 4000000 in
set_option maxRecDepth 100000 in
theorem c_X1_refuse (l : Launch) (D : va_G) (cB cI cJ : ClassId) (ad : Nat → Nat) (n : Nat) (M : Nat → va_E) (hI : ipI ad n) (o : Nat) (ak sk : Int32) (tf2 : Nat → Int32) (x : Int32) (h_o : o < n) (h_o_5 : o + 5 < n) (h_o_6 : o + 6 < n) (m_o : M o = .inr (1, logF ad o ak sk)) (m_o_5 : M (o + 5) = .inr (8, [.int 1, .ref (ad (o + 6))])) (m_o_6 : M (o + 6) = .inl (cI, 3, .inl tf2))  : cWv l D cB cI cJ ad n M yX1_refuse wsX1_refuse 1 22 [.ref (ad o), .int x] (fun M' => M' (o + 6) = .inl (cI, 3, .inl (tset 3 tf2 x ((tat 3 tf2 x) + 1))) ∧ ∀ q : Nat, q ≠ o + 6 → M' q = M q) := by
  refine q_body (cc := cX1_refuse) (maxL := 2) (ret := none) (by decide) rfl (Nat.le_of_ble_eq_true rfl) ?_
  intro p e s m args below meth c ls X hr hlocks hK hP hl
  obtain ⟨hx, hb, hml, hown, hts⟩ := id X
  have hS : va_S (ipA ad n) s.heap s.heap [] := va_S.rf
  have hl : lv_has ls 2 [(0, .ref (ad o)), (1, .int x)] := hl
  refine lv_aload_n hx hb dX1_refuse_0 rfl (lv_at hl 0 rfl) ?_
  refine q_get (v := .ref (ad (o + 5))) (fs := logF ad o ak sk) X hK hP fX1_refuse_23 h_o m_o rfl dX1_refuse_1 ?_
  refine lv_iload_n hx hb dX1_refuse_4 rfl (lv_at hl 1 rfl) ?_
  refine lv_aload_n hx hb dX1_refuse_5 rfl (lv_at hl 0 rfl) ?_
  refine q_get (v := .ref (ad (o + 5))) (fs := logF ad o ak sk) X hK hP fX1_refuse_23 h_o m_o rfl dX1_refuse_6 ?_
  refine lv_iload_n hx hb dX1_refuse_9 rfl (lv_at hl 1 rfl) ?_
  refine q_rdV (As := [.int x]) (rest := [.int x, .ref (ad (o + 5))]) (c_X8_at l D cB cI cJ ad n M (o + 5) (o + 6) 3 1 tf2 x h_o_5 h_o_6 m_o_5 m_o_6 (by decide)) X hK hP hS hl.1 rfl gX1_refuse_X8_at yd_X8_at ⟨Nat.le_of_ble_eq_true rfl, Nat.le_of_ble_eq_true rfl⟩ h_o_5 m_o_5 (ci := 8) rfl rfl (Nat.le_of_ble_eq_true rfl) ⟨Nat.zero_le _, Nat.zero_le _⟩ dX1_refuse_10 ?_
  refine lv_iconst (v := 1) hx hb dX1_refuse_13 (by decide) ?_
  refine lv_iadd hx hb dX1_refuse_14 ?_
  refine q_wrVv (As := [.int x, .int ((tat 3 tf2 x) + 1)]) (rest := []) (c_X8_set l D cB cI cJ ad n M hI (o + 5) (o + 6) 3 1 tf2 x ((tat 3 tf2 x) + 1) h_o_5 h_o_6 m_o_5 m_o_6 (by decide)) X hK hP hS hl.1 rfl gX1_refuse_X8_set yd_X8_set ⟨Nat.le_of_ble_eq_true rfl, Nat.le_of_ble_eq_true rfl⟩ h_o_5 m_o_5 (ci := 8) rfl rfl (Nat.le_of_ble_eq_true rfl) ⟨Nat.zero_le _, Nat.zero_le _⟩ dX1_refuse_15 (fun M2 H locs hp1 hP hS => ?_)
  obtain ⟨g4, fr5⟩ := hp1
  exact q_wvret X hr hlocks hP hS ⟨g4, (fun q n0 => (fr5 q n0))⟩ dX1_refuse_18
set_option maxRecDepth 20000 in
theorem fX1_forgetFirstAct_14 : FL wsX1_forgetFirstAct RX1 14 1 0 := ⟨RX1, TX1, 5, rfl, by decide +kernel, by decide, by decide +kernel⟩
set_option maxRecDepth 20000 in
theorem fX1_forgetFirstAct_26 : FL wsX1_forgetFirstAct RX1 26 1 1 := ⟨RX1, TX1, 5, rfl, by decide +kernel, by decide, by decide +kernel⟩
def s_X1_forgetFirstAct_2s (t2 : Nat) (y2_0 : Nat → Int32) : (Nat → Int32) := (tset 120 y2_0 ((nI (t2 + 3)) - 3) (tat 120 y2_0 (nI (t2 + 3))))
def s_X1_forgetFirstAct_2 (z0 : Nat → Int32) : Nat → (Nat → Int32)
  | 0 => z0
  | t + 1 => s_X1_forgetFirstAct_2s t (s_X1_forgetFirstAct_2 z0 t)
set_option maxHeartbeats 4000000 in
set_option maxRecDepth 100000 in
theorem c_X1_forgetFirstAct (l : Launch) (D : va_G) (cB cI cJ : ClassId) (ad : Nat → Nat) (n : Nat) (M : Nat → va_E) (hI : ipI ad n) (o : Nat) (ak sk : Int32) (af : Nat → Int32) (h_o : o < n) (h_o_1 : o + 1 < n) (h_o_2 : o + 2 < n) (m_o : M o = .inr (1, logF ad o ak sk)) (m_o_1 : M (o + 1) = .inr (8, [.int 3, .ref (ad (o + 2))])) (m_o_2 : M (o + 2) = .inl (cI, 120, .inl af))  : cWv l D cB cI cJ ad n M yX1_forgetFirstAct wsX1_forgetFirstAct 1 22 [.ref (ad o)] (fun M' => M' o = .inr (1, logF ad o (ak - 1) sk) ∧ M' (o + 2) = .inl (cI, 120, .inl (s_X1_forgetFirstAct_2 af (120 - 3))) ∧ ∀ q : Nat, q ≠ o → q ≠ o + 2 → M' q = M q) := by
  refine q_body (cc := cX1_forgetFirstAct) (maxL := 2) (ret := none) (by decide) rfl (Nat.le_of_ble_eq_true rfl) ?_
  intro p e s m args below meth c ls X hr hlocks hK hP hl
  obtain ⟨hx, hb, hml, hown, hts⟩ := id X
  have hS : va_S (ipA ad n) s.heap s.heap [] := va_S.rf
  have hl : lv_has ls 2 [(0, .ref (ad o))] := hl
  refine lv_iconst (v := 3) hx hb dX1_forgetFirstAct_0 (by decide) ?_
  refine lv_istore_n (lv' := [(1, .int 3), (0, .ref (ad o))]) hx hb dX1_forgetFirstAct_1 rfl hl (by decide) rfl (fun ls hl => ?_)
  have loop_2 : ∀ (fuel : Nat) (t2 : Nat) (y2_0 : Nat → Int32), 120 - (t2 + 3) < fuel → t2 + 3 ≤ 120 → y2_0 = (s_X1_forgetFirstAct_2 af t2) → ∀ (ML2 : Nat → va_E) (H : Heap) (locs : List Loc), ML2 (o + 2) = .inl (cI, 120, .inl y2_0) → (∀ q : Nat, q ≠ o + 2 → ML2 q = M q) → va_P D vwCl (ip ad n ML2) H → va_S (ipA ad n) s.heap H locs → ∀ (ls : Array Slot), lv_has ls 2 [(1, .int (nI (t2 + 3))), (0, .ref (ad o))] → W p l e (rmOf 1 22) s m args below meth c H locs 0 0 (MQ below (va_Qv (fun M' => M' o = .inr (1, logF ad o (ak - 1) sk) ∧ M' (o + 2) = .inl (cI, 120, .inl (s_X1_forgetFirstAct_2 af (120 - 3))) ∧ ∀ q : Nat, q ≠ o → q ≠ o + 2 → M' q = M q) (fun M' t => va_P D vwCl (ip ad n M') t.heap) (ipA ad n)) args s 0 0 (ipA ad n)) (F0 m 2 ls []) := by
    intro fuel
    induction fuel with
    | zero =>
      intro t2 y2_0 hz
      exact absurd hz (Nat.not_lt_zero _)
    | succ fuel ih_2 =>
      intro t2 y2_0 hz_2 h_t2 e_y2_0 ML2 H locs mL2_0 fL2 hP hS ls hl
      skip
      refine lv_iload_n hx hb dX1_forgetFirstAct_2 rfl (lv_at hl 0 rfl) ?_
      refine lv_bipush (v := 120) hx hb dX1_forgetFirstAct_3 (by decide) ?_
      refine lv_icmp_ge (tgt := 32) hx hb dX1_forgetFirstAct_5 (by decide) (fun c_5 => ?_) (fun c_5 => ?_)
      · skip
        have h9_2 : t2 + 3 = 120 := eq_of_le (t := t2 + 3) (k := 120) c_5 (by omega) h_t2
        have h8_2 : t2 = (120 - 3) := by omega
        subst h8_2
        subst e_y2_0
        refine lv_aload_n hx hb dX1_forgetFirstAct_32 rfl (lv_at hl 1 rfl) ?_
        refine lv_dup hx hb dX1_forgetFirstAct_33 rfl ?_
        refine q_get (v := .int ak) (fs := logF ad o ak sk) X hK hP fX1_forgetFirstAct_26 h_o ((fL2 o (by omega)).trans m_o) rfl dX1_forgetFirstAct_34 ?_
        refine lv_iconst (v := 1) hx hb dX1_forgetFirstAct_37 (by decide) ?_
        refine lv_isub hx hb dX1_forgetFirstAct_38 ?_
        refine q_put (fs := logF ad o ak sk) (fs' := logF ad o (ak - 1) sk) X hK hI hP hS fX1_forgetFirstAct_26 fw_1_1 h_o ((fL2 o (by omega)).trans m_o) rfl rfl (Nat.le_of_ble_eq_true rfl) rfl dX1_forgetFirstAct_39 (fun H locs hP hS => ?_)
        exact q_wvret X hr hlocks hP hS ⟨(va_up_self ML2 o (.inr (1, logF ad o (ak - 1) sk))), ((va_up_ne ML2 (.inr (1, logF ad o (ak - 1) sk)) (show o + 2 ≠ o by omega)).trans mL2_0), (fun q n0 n1 => ((va_up_ne _ _ n0).trans (fL2 q n1)))⟩ dX1_forgetFirstAct_42
      · skip
        have h9_2 : t2 + 3 < 120 := lt_of_nlt (t := t2 + 3) (k := 120) c_5 (by omega) h_t2
        refine lv_aload_n hx hb dX1_forgetFirstAct_8 rfl (lv_at hl 1 rfl) ?_
        refine q_get (v := .ref (ad (o + 1))) (fs := logF ad o ak sk) X hK hP fX1_forgetFirstAct_14 h_o ((fL2 o (by omega)).trans m_o) rfl dX1_forgetFirstAct_9 ?_
        refine lv_iload_n hx hb dX1_forgetFirstAct_12 rfl (lv_at hl 0 rfl) ?_
        refine lv_iconst (v := 3) hx hb dX1_forgetFirstAct_13 (by decide) ?_
        refine lv_isub hx hb dX1_forgetFirstAct_14 ?_
        refine lv_aload_n hx hb dX1_forgetFirstAct_15 rfl (lv_at hl 1 rfl) ?_
        refine q_get (v := .ref (ad (o + 1))) (fs := logF ad o ak sk) X hK hP fX1_forgetFirstAct_14 h_o ((fL2 o (by omega)).trans m_o) rfl dX1_forgetFirstAct_16 ?_
        refine lv_iload_n hx hb dX1_forgetFirstAct_19 rfl (lv_at hl 0 rfl) ?_
        refine q_rdV (As := [.int (nI (t2 + 3))]) (rest := [.int ((nI (t2 + 3)) - 3), .ref (ad (o + 1))]) (c_X8_at l D cB cI cJ ad n ML2 (o + 1) (o + 2) 120 3 y2_0 (nI (t2 + 3)) h_o_1 h_o_2 ((fL2 (o + 1) (by omega)).trans m_o_1) mL2_0 (by decide)) X hK hP hS hl.1 rfl gX1_forgetFirstAct_X8_at yd_X8_at ⟨Nat.le_of_ble_eq_true rfl, Nat.le_of_ble_eq_true rfl⟩ h_o_1 ((fL2 (o + 1) (by omega)).trans m_o_1) (ci := 8) rfl rfl (Nat.le_of_ble_eq_true rfl) ⟨Nat.zero_le _, Nat.zero_le _⟩ dX1_forgetFirstAct_20 ?_
        refine q_wrVv (As := [.int ((nI (t2 + 3)) - 3), .int (tat 120 y2_0 (nI (t2 + 3)))]) (rest := []) (c_X8_set l D cB cI cJ ad n ML2 hI (o + 1) (o + 2) 120 3 y2_0 ((nI (t2 + 3)) - 3) (tat 120 y2_0 (nI (t2 + 3))) h_o_1 h_o_2 ((fL2 (o + 1) (by omega)).trans m_o_1) mL2_0 (by decide)) X hK hP hS hl.1 rfl gX1_forgetFirstAct_X8_set yd_X8_set ⟨Nat.le_of_ble_eq_true rfl, Nat.le_of_ble_eq_true rfl⟩ h_o_1 ((fL2 (o + 1) (by omega)).trans m_o_1) (ci := 8) rfl rfl (Nat.le_of_ble_eq_true rfl) ⟨Nat.zero_le _, Nat.zero_le _⟩ dX1_forgetFirstAct_23 (fun M4 H locs hp3 hP hS => ?_)
        obtain ⟨g6, fr7⟩ := hp3
        refine lv_iinc (v := ((nI (t2 + 3)) + 1)) (lv' := [(1, .int ((nI (t2 + 3)) + 1)), (0, .ref (ad o))]) hx hb dX1_forgetFirstAct_26 hl (k := 0) rfl rfl (by decide) rfl (fun ls hl => ?_)
        refine lv_goto (tgt := 2) hx hb dX1_forgetFirstAct_29 (by decide) ?_
        exact ih_2 (t2 + 1) (tset 120 y2_0 ((nI (t2 + 3)) - 3) (tat 120 y2_0 (nI (t2 + 3)))) (by omega) (by omega) (by rw [s_X1_forgetFirstAct_2, ← e_y2_0, s_X1_forgetFirstAct_2s]) _ _ _ g6 (fun q n0 => ((fr7 q n0).trans (fL2 q n0))) hP hS ls (by rw [(show nI (t2 + 1 + 3) = nI (t2 + 3) + 1 by rw [(show t2 + 1 + 3 = t2 + 3 + 1 by omega)]; exact nI_succ _)]; exact lv_sub hl [0, 1] rfl)
  exact loop_2 (120 + 1) 0 af (by omega) (by omega) (by rfl) _ _ _ m_o_2 (fun q n0 => rfl) hP hS ls (lv_sub hl [0, 1] rfl)
set_option maxRecDepth 20000 in
theorem fX1_keepAct_26 : FL wsX1_keepAct RX1 26 1 1 := ⟨RX1, TX1, 5, rfl, by decide +kernel, by decide, by decide +kernel⟩
set_option maxRecDepth 20000 in
theorem fX1_keepAct_14 : FL wsX1_keepAct RX1 14 1 0 := ⟨RX1, TX1, 5, rfl, by decide +kernel, by decide, by decide +kernel⟩
theorem yd_X8_set_ : YD yX8_set_ 3 := ⟨by decide +kernel, by decide +kernel, by decide +kernel⟩
theorem yd_X1_forgetFirstAct : YD yX1_forgetFirstAct 0 := ⟨by decide +kernel, by decide +kernel, by decide +kernel⟩
def s_X1_keepAct_0_1 (ak : Int32) : Int32 := if ak = 40 then ((ak - 1) + 1) else (ak + 1)
def s_X1_keepAct_1_f (ak : Int32) (af : Nat → Int32) (x : Int32) (y : Int32) (z : Int32) : Nat → Int32 := if ak = 40 then (tset 120 (tset 120 (tset 120 (s_X1_forgetFirstAct_2 af (120 - 3)) ((ak - 1) * 3 + 0) x) ((ak - 1) * 3 + 1) y) ((ak - 1) * 3 + 2) z) else (tset 120 (tset 120 (tset 120 af (ak * 3 + 0) x) (ak * 3 + 1) y) (ak * 3 + 2) z)
set_option maxHeartbeats 4000000 in
set_option maxRecDepth 100000 in
theorem c_X1_keepAct (l : Launch) (D : va_G) (cB cI cJ : ClassId) (ad : Nat → Nat) (n : Nat) (M : Nat → va_E) (hI : ipI ad n) (o : Nat) (ak sk : Int32) (af : Nat → Int32) (x y z : Int32) (h_o : o < n) (h_o_1 : o + 1 < n) (h_o_2 : o + 2 < n) (m_o : M o = .inr (1, logF ad o ak sk)) (m_o_1 : M (o + 1) = .inr (8, [.int 3, .ref (ad (o + 2))])) (m_o_2 : M (o + 2) = .inl (cI, 120, .inl af))  : cWv l D cB cI cJ ad n M yX1_keepAct wsX1_keepAct 2 43 [.ref (ad o), .int x, .int y, .int z] (fun M' => M' o = .inr (1, logF ad o (s_X1_keepAct_0_1 ak) sk) ∧ M' (o + 2) = .inl (cI, 120, .inl (s_X1_keepAct_1_f ak af x y z)) ∧ ∀ q : Nat, q ≠ o → q ≠ o + 2 → M' q = M q) := by
  refine q_body (cc := cX1_keepAct) (maxL := 4) (ret := none) (by decide) rfl (Nat.le_of_ble_eq_true rfl) ?_
  intro p e s m args below meth c ls X hr hlocks hK hP hl
  obtain ⟨hx, hb, hml, hown, hts⟩ := id X
  have hS : va_S (ipA ad n) s.heap s.heap [] := va_S.rf
  have hl : lv_has ls 4 [(0, .ref (ad o)), (1, .int x), (2, .int y), (3, .int z)] := hl
  refine lv_aload_n hx hb dX1_keepAct_0 rfl (lv_at hl 0 rfl) ?_
  refine q_get (v := .int ak) (fs := logF ad o ak sk) X hK hP fX1_keepAct_26 h_o m_o rfl dX1_keepAct_1 ?_
  refine lv_bipush (v := 40) hx hb dX1_keepAct_4 (by decide) ?_
  refine lv_icmp_ne (tgt := 13) hx hb dX1_keepAct_6 (by decide) (fun c_6 => ?_) (fun c_6 => ?_)
  · skip
    refine lv_aload_n hx hb dX1_keepAct_13 rfl (lv_at hl 0 rfl) ?_
    refine q_get (v := .ref (ad (o + 1))) (fs := logF ad o ak sk) X hK hP fX1_keepAct_14 h_o m_o rfl dX1_keepAct_14 ?_
    refine lv_aload_n hx hb dX1_keepAct_17 rfl (lv_at hl 0 rfl) ?_
    refine q_get (v := .int ak) (fs := logF ad o ak sk) X hK hP fX1_keepAct_26 h_o m_o rfl dX1_keepAct_18 ?_
    refine lv_iconst (v := 0) hx hb dX1_keepAct_21 (by decide) ?_
    refine lv_iload_n hx hb dX1_keepAct_22 rfl (lv_at hl 1 rfl) ?_
    refine q_wrVv (As := [.int ak, .int 0, .int x]) (rest := []) (c_X8_set_ l D cB cI cJ ad n M hI (o + 1) (o + 2) 120 3 af ak 0 x h_o_1 h_o_2 m_o_1 m_o_2 (by decide)) X hK hP hS hl.1 rfl gX1_keepAct_X8_set_ yd_X8_set_ ⟨Nat.le_of_ble_eq_true rfl, Nat.le_of_ble_eq_true rfl⟩ h_o_1 m_o_1 (ci := 8) rfl rfl (Nat.le_of_ble_eq_true rfl) ⟨Nat.zero_le _, Nat.zero_le _⟩ dX1_keepAct_23 (fun M2 H locs hp1 hP hS => ?_)
    obtain ⟨g4, fr5⟩ := hp1
    refine lv_aload_n hx hb dX1_keepAct_26 rfl (lv_at hl 0 rfl) ?_
    refine q_get (v := .ref (ad (o + 1))) (fs := logF ad o ak sk) X hK hP fX1_keepAct_14 h_o ((fr5 o (by omega)).trans m_o) rfl dX1_keepAct_27 ?_
    refine lv_aload_n hx hb dX1_keepAct_30 rfl (lv_at hl 0 rfl) ?_
    refine q_get (v := .int ak) (fs := logF ad o ak sk) X hK hP fX1_keepAct_26 h_o ((fr5 o (by omega)).trans m_o) rfl dX1_keepAct_31 ?_
    refine lv_iconst (v := 1) hx hb dX1_keepAct_34 (by decide) ?_
    refine lv_iload_n hx hb dX1_keepAct_35 rfl (lv_at hl 2 rfl) ?_
    refine q_wrVv (As := [.int ak, .int 1, .int y]) (rest := []) (c_X8_set_ l D cB cI cJ ad n M2 hI (o + 1) (o + 2) 120 3 (tset 120 af (ak * 3 + 0) x) ak 1 y h_o_1 h_o_2 ((fr5 (o + 1) (by omega)).trans m_o_1) g4 (by decide)) X hK hP hS hl.1 rfl gX1_keepAct_X8_set_ yd_X8_set_ ⟨Nat.le_of_ble_eq_true rfl, Nat.le_of_ble_eq_true rfl⟩ h_o_1 ((fr5 (o + 1) (by omega)).trans m_o_1) (ci := 8) rfl rfl (Nat.le_of_ble_eq_true rfl) ⟨Nat.zero_le _, Nat.zero_le _⟩ dX1_keepAct_36 (fun M7 H locs hp6 hP hS => ?_)
    obtain ⟨g9, fr10⟩ := hp6
    refine lv_aload_n hx hb dX1_keepAct_39 rfl (lv_at hl 0 rfl) ?_
    refine q_get (v := .ref (ad (o + 1))) (fs := logF ad o ak sk) X hK hP fX1_keepAct_14 h_o ((fr10 o (by omega)).trans ((fr5 o (by omega)).trans m_o)) rfl dX1_keepAct_40 ?_
    refine lv_aload_n hx hb dX1_keepAct_43 rfl (lv_at hl 0 rfl) ?_
    refine q_get (v := .int ak) (fs := logF ad o ak sk) X hK hP fX1_keepAct_26 h_o ((fr10 o (by omega)).trans ((fr5 o (by omega)).trans m_o)) rfl dX1_keepAct_44 ?_
    refine lv_iconst (v := 2) hx hb dX1_keepAct_47 (by decide) ?_
    refine lv_iload_n hx hb dX1_keepAct_48 rfl (lv_at hl 3 rfl) ?_
    refine q_wrVv (As := [.int ak, .int 2, .int z]) (rest := []) (c_X8_set_ l D cB cI cJ ad n M7 hI (o + 1) (o + 2) 120 3 (tset 120 (tset 120 af (ak * 3 + 0) x) (ak * 3 + 1) y) ak 2 z h_o_1 h_o_2 ((fr10 (o + 1) (by omega)).trans ((fr5 (o + 1) (by omega)).trans m_o_1)) g9 (by decide)) X hK hP hS hl.1 rfl gX1_keepAct_X8_set_ yd_X8_set_ ⟨Nat.le_of_ble_eq_true rfl, Nat.le_of_ble_eq_true rfl⟩ h_o_1 ((fr10 (o + 1) (by omega)).trans ((fr5 (o + 1) (by omega)).trans m_o_1)) (ci := 8) rfl rfl (Nat.le_of_ble_eq_true rfl) ⟨Nat.zero_le _, Nat.zero_le _⟩ dX1_keepAct_49 (fun M12 H locs hp11 hP hS => ?_)
    obtain ⟨g14, fr15⟩ := hp11
    refine lv_aload_n hx hb dX1_keepAct_52 rfl (lv_at hl 0 rfl) ?_
    refine lv_dup hx hb dX1_keepAct_53 rfl ?_
    refine q_get (v := .int ak) (fs := logF ad o ak sk) X hK hP fX1_keepAct_26 h_o ((fr15 o (by omega)).trans ((fr10 o (by omega)).trans ((fr5 o (by omega)).trans m_o))) rfl dX1_keepAct_54 ?_
    refine lv_iconst (v := 1) hx hb dX1_keepAct_57 (by decide) ?_
    refine lv_iadd hx hb dX1_keepAct_58 ?_
    refine q_put (fs := logF ad o ak sk) (fs' := logF ad o (ak + 1) sk) X hK hI hP hS fX1_keepAct_26 fw_1_1 h_o ((fr15 o (by omega)).trans ((fr10 o (by omega)).trans ((fr5 o (by omega)).trans m_o))) rfl rfl (Nat.le_of_ble_eq_true rfl) rfl dX1_keepAct_59 (fun H locs hP hS => ?_)
    exact q_wvret X hr hlocks hP hS ⟨(by rw [s_X1_keepAct_0_1, if_neg c_6]; exact (va_up_self M12 o (.inr (1, logF ad o (ak + 1) sk)))), (by rw [s_X1_keepAct_1_f, if_neg c_6]; exact ((va_up_ne M12 (.inr (1, logF ad o (ak + 1) sk)) (show o + 2 ≠ o by omega)).trans g14)), (fun q n0 n1 => ((va_up_ne _ _ n0).trans ((fr15 q n1).trans ((fr10 q n1).trans (fr5 q n1)))))⟩ dX1_keepAct_62
  · skip
    refine lv_aload_n hx hb dX1_keepAct_9 rfl (lv_at hl 0 rfl) ?_
    refine q_wrVv (As := []) (rest := []) (c_X1_forgetFirstAct l D cB cI cJ ad n M hI o ak sk af h_o h_o_1 h_o_2 m_o m_o_1 m_o_2 ) X hK hP hS hl.1 rfl gX1_keepAct_X1_forgetFirstAct yd_X1_forgetFirstAct ⟨Nat.le_of_ble_eq_true rfl, Nat.le_of_ble_eq_true rfl⟩ h_o m_o (ci := 1) rfl rfl (Nat.le_of_ble_eq_true rfl) ⟨Nat.zero_le _, Nat.zero_le _⟩ dX1_keepAct_10 (fun M19 H locs hp18 hP hS => ?_)
    obtain ⟨g21, g22, fr23⟩ := hp18
    refine lv_aload_n hx hb dX1_keepAct_13 rfl (lv_at hl 0 rfl) ?_
    refine q_get (v := .ref (ad (o + 1))) (fs := logF ad o (ak - 1) sk) X hK hP fX1_keepAct_14 h_o g21 rfl dX1_keepAct_14 ?_
    refine lv_aload_n hx hb dX1_keepAct_17 rfl (lv_at hl 0 rfl) ?_
    refine q_get (v := .int (ak - 1)) (fs := logF ad o (ak - 1) sk) X hK hP fX1_keepAct_26 h_o g21 rfl dX1_keepAct_18 ?_
    refine lv_iconst (v := 0) hx hb dX1_keepAct_21 (by decide) ?_
    refine lv_iload_n hx hb dX1_keepAct_22 rfl (lv_at hl 1 rfl) ?_
    refine q_wrVv (As := [.int (ak - 1), .int 0, .int x]) (rest := []) (c_X8_set_ l D cB cI cJ ad n M19 hI (o + 1) (o + 2) 120 3 (s_X1_forgetFirstAct_2 af (120 - 3)) (ak - 1) 0 x h_o_1 h_o_2 ((fr23 (o + 1) (by omega) (by omega)).trans m_o_1) g22 (by decide)) X hK hP hS hl.1 rfl gX1_keepAct_X8_set_ yd_X8_set_ ⟨Nat.le_of_ble_eq_true rfl, Nat.le_of_ble_eq_true rfl⟩ h_o_1 ((fr23 (o + 1) (by omega) (by omega)).trans m_o_1) (ci := 8) rfl rfl (Nat.le_of_ble_eq_true rfl) ⟨Nat.zero_le _, Nat.zero_le _⟩ dX1_keepAct_23 (fun M25 H locs hp24 hP hS => ?_)
    obtain ⟨g27, fr28⟩ := hp24
    refine lv_aload_n hx hb dX1_keepAct_26 rfl (lv_at hl 0 rfl) ?_
    refine q_get (v := .ref (ad (o + 1))) (fs := logF ad o (ak - 1) sk) X hK hP fX1_keepAct_14 h_o ((fr28 o (by omega)).trans g21) rfl dX1_keepAct_27 ?_
    refine lv_aload_n hx hb dX1_keepAct_30 rfl (lv_at hl 0 rfl) ?_
    refine q_get (v := .int (ak - 1)) (fs := logF ad o (ak - 1) sk) X hK hP fX1_keepAct_26 h_o ((fr28 o (by omega)).trans g21) rfl dX1_keepAct_31 ?_
    refine lv_iconst (v := 1) hx hb dX1_keepAct_34 (by decide) ?_
    refine lv_iload_n hx hb dX1_keepAct_35 rfl (lv_at hl 2 rfl) ?_
    refine q_wrVv (As := [.int (ak - 1), .int 1, .int y]) (rest := []) (c_X8_set_ l D cB cI cJ ad n M25 hI (o + 1) (o + 2) 120 3 (tset 120 (s_X1_forgetFirstAct_2 af (120 - 3)) ((ak - 1) * 3 + 0) x) (ak - 1) 1 y h_o_1 h_o_2 ((fr28 (o + 1) (by omega)).trans ((fr23 (o + 1) (by omega) (by omega)).trans m_o_1)) g27 (by decide)) X hK hP hS hl.1 rfl gX1_keepAct_X8_set_ yd_X8_set_ ⟨Nat.le_of_ble_eq_true rfl, Nat.le_of_ble_eq_true rfl⟩ h_o_1 ((fr28 (o + 1) (by omega)).trans ((fr23 (o + 1) (by omega) (by omega)).trans m_o_1)) (ci := 8) rfl rfl (Nat.le_of_ble_eq_true rfl) ⟨Nat.zero_le _, Nat.zero_le _⟩ dX1_keepAct_36 (fun M30 H locs hp29 hP hS => ?_)
    obtain ⟨g32, fr33⟩ := hp29
    refine lv_aload_n hx hb dX1_keepAct_39 rfl (lv_at hl 0 rfl) ?_
    refine q_get (v := .ref (ad (o + 1))) (fs := logF ad o (ak - 1) sk) X hK hP fX1_keepAct_14 h_o ((fr33 o (by omega)).trans ((fr28 o (by omega)).trans g21)) rfl dX1_keepAct_40 ?_
    refine lv_aload_n hx hb dX1_keepAct_43 rfl (lv_at hl 0 rfl) ?_
    refine q_get (v := .int (ak - 1)) (fs := logF ad o (ak - 1) sk) X hK hP fX1_keepAct_26 h_o ((fr33 o (by omega)).trans ((fr28 o (by omega)).trans g21)) rfl dX1_keepAct_44 ?_
    refine lv_iconst (v := 2) hx hb dX1_keepAct_47 (by decide) ?_
    refine lv_iload_n hx hb dX1_keepAct_48 rfl (lv_at hl 3 rfl) ?_
    refine q_wrVv (As := [.int (ak - 1), .int 2, .int z]) (rest := []) (c_X8_set_ l D cB cI cJ ad n M30 hI (o + 1) (o + 2) 120 3 (tset 120 (tset 120 (s_X1_forgetFirstAct_2 af (120 - 3)) ((ak - 1) * 3 + 0) x) ((ak - 1) * 3 + 1) y) (ak - 1) 2 z h_o_1 h_o_2 ((fr33 (o + 1) (by omega)).trans ((fr28 (o + 1) (by omega)).trans ((fr23 (o + 1) (by omega) (by omega)).trans m_o_1))) g32 (by decide)) X hK hP hS hl.1 rfl gX1_keepAct_X8_set_ yd_X8_set_ ⟨Nat.le_of_ble_eq_true rfl, Nat.le_of_ble_eq_true rfl⟩ h_o_1 ((fr33 (o + 1) (by omega)).trans ((fr28 (o + 1) (by omega)).trans ((fr23 (o + 1) (by omega) (by omega)).trans m_o_1))) (ci := 8) rfl rfl (Nat.le_of_ble_eq_true rfl) ⟨Nat.zero_le _, Nat.zero_le _⟩ dX1_keepAct_49 (fun M35 H locs hp34 hP hS => ?_)
    obtain ⟨g37, fr38⟩ := hp34
    refine lv_aload_n hx hb dX1_keepAct_52 rfl (lv_at hl 0 rfl) ?_
    refine lv_dup hx hb dX1_keepAct_53 rfl ?_
    refine q_get (v := .int (ak - 1)) (fs := logF ad o (ak - 1) sk) X hK hP fX1_keepAct_26 h_o ((fr38 o (by omega)).trans ((fr33 o (by omega)).trans ((fr28 o (by omega)).trans g21))) rfl dX1_keepAct_54 ?_
    refine lv_iconst (v := 1) hx hb dX1_keepAct_57 (by decide) ?_
    refine lv_iadd hx hb dX1_keepAct_58 ?_
    refine q_put (fs := logF ad o (ak - 1) sk) (fs' := logF ad o ((ak - 1) + 1) sk) X hK hI hP hS fX1_keepAct_26 fw_1_1 h_o ((fr38 o (by omega)).trans ((fr33 o (by omega)).trans ((fr28 o (by omega)).trans g21))) rfl rfl (Nat.le_of_ble_eq_true rfl) rfl dX1_keepAct_59 (fun H locs hP hS => ?_)
    exact q_wvret X hr hlocks hP hS ⟨(by rw [s_X1_keepAct_0_1, if_pos c_6]; exact (va_up_self M35 o (.inr (1, logF ad o ((ak - 1) + 1) sk)))), (by rw [s_X1_keepAct_1_f, if_pos c_6]; exact ((va_up_ne M35 (.inr (1, logF ad o ((ak - 1) + 1) sk)) (show o + 2 ≠ o by omega)).trans g37)), (fun q n0 n1 => ((va_up_ne _ _ n0).trans ((fr38 q n1).trans ((fr33 q n1).trans ((fr28 q n1).trans (fr23 q n0 n1))))))⟩ dX1_keepAct_62
set_option maxRecDepth 20000 in
theorem fX1_keepSeen_20 : FL wsX1_keepSeen RX1 20 1 2 := ⟨RX1, TX1, 5, rfl, by decide +kernel, by decide, by decide +kernel⟩
set_option maxRecDepth 20000 in
theorem fX1_keepSeen_30 : FL wsX1_keepSeen RX1 30 1 3 := ⟨RX1, TX1, 5, rfl, by decide +kernel, by decide, by decide +kernel⟩
set_option maxHeartbeats 4000000 in
set_option maxRecDepth 100000 in
theorem c_X1_keepSeen (l : Launch) (D : va_G) (cB cI cJ : ClassId) (ad : Nat → Nat) (n : Nat) (M : Nat → va_E) (hI : ipI ad n) (o : Nat) (ak sk : Int32) (sf : Nat → Int32) (x y : Int32) (h_o : o < n) (h_o_3 : o + 3 < n) (h_o_4 : o + 4 < n) (m_o : M o = .inr (1, logF ad o ak sk)) (m_o_3 : M (o + 3) = .inr (8, [.int 2, .ref (ad (o + 4))])) (m_o_4 : M (o + 4) = .inl (cI, 12, .inl sf))  : cWv l D cB cI cJ ad n M yX1_keepSeen wsX1_keepSeen 1 24 [.ref (ad o), .int x, .int y] (fun M' => M' (o + 4) = .inl (cI, 12, .inl (tset 12 (tset 12 sf (sk * 2 + 0) x) (sk * 2 + 1) y)) ∧ M' o = .inr (1, logF ad o ak (sk + 1)) ∧ ∀ q : Nat, q ≠ o + 4 → q ≠ o → M' q = M q) := by
  refine q_body (cc := cX1_keepSeen) (maxL := 3) (ret := none) (by decide) rfl (Nat.le_of_ble_eq_true rfl) ?_
  intro p e s m args below meth c ls X hr hlocks hK hP hl
  obtain ⟨hx, hb, hml, hown, hts⟩ := id X
  have hS : va_S (ipA ad n) s.heap s.heap [] := va_S.rf
  have hl : lv_has ls 3 [(0, .ref (ad o)), (1, .int x), (2, .int y)] := hl
  refine lv_aload_n hx hb dX1_keepSeen_0 rfl (lv_at hl 0 rfl) ?_
  refine q_get (v := .ref (ad (o + 3))) (fs := logF ad o ak sk) X hK hP fX1_keepSeen_20 h_o m_o rfl dX1_keepSeen_1 ?_
  refine lv_aload_n hx hb dX1_keepSeen_4 rfl (lv_at hl 0 rfl) ?_
  refine q_get (v := .int sk) (fs := logF ad o ak sk) X hK hP fX1_keepSeen_30 h_o m_o rfl dX1_keepSeen_5 ?_
  refine lv_iconst (v := 0) hx hb dX1_keepSeen_8 (by decide) ?_
  refine lv_iload_n hx hb dX1_keepSeen_9 rfl (lv_at hl 1 rfl) ?_
  refine q_wrVv (As := [.int sk, .int 0, .int x]) (rest := []) (c_X8_set_ l D cB cI cJ ad n M hI (o + 3) (o + 4) 12 2 sf sk 0 x h_o_3 h_o_4 m_o_3 m_o_4 (by decide)) X hK hP hS hl.1 rfl gX1_keepSeen_X8_set_ yd_X8_set_ ⟨Nat.le_of_ble_eq_true rfl, Nat.le_of_ble_eq_true rfl⟩ h_o_3 m_o_3 (ci := 8) rfl rfl (Nat.le_of_ble_eq_true rfl) ⟨Nat.zero_le _, Nat.zero_le _⟩ dX1_keepSeen_10 (fun M2 H locs hp1 hP hS => ?_)
  obtain ⟨g4, fr5⟩ := hp1
  refine lv_aload_n hx hb dX1_keepSeen_13 rfl (lv_at hl 0 rfl) ?_
  refine q_get (v := .ref (ad (o + 3))) (fs := logF ad o ak sk) X hK hP fX1_keepSeen_20 h_o ((fr5 o (by omega)).trans m_o) rfl dX1_keepSeen_14 ?_
  refine lv_aload_n hx hb dX1_keepSeen_17 rfl (lv_at hl 0 rfl) ?_
  refine q_get (v := .int sk) (fs := logF ad o ak sk) X hK hP fX1_keepSeen_30 h_o ((fr5 o (by omega)).trans m_o) rfl dX1_keepSeen_18 ?_
  refine lv_iconst (v := 1) hx hb dX1_keepSeen_21 (by decide) ?_
  refine lv_iload_n hx hb dX1_keepSeen_22 rfl (lv_at hl 2 rfl) ?_
  refine q_wrVv (As := [.int sk, .int 1, .int y]) (rest := []) (c_X8_set_ l D cB cI cJ ad n M2 hI (o + 3) (o + 4) 12 2 (tset 12 sf (sk * 2 + 0) x) sk 1 y h_o_3 h_o_4 ((fr5 (o + 3) (by omega)).trans m_o_3) g4 (by decide)) X hK hP hS hl.1 rfl gX1_keepSeen_X8_set_ yd_X8_set_ ⟨Nat.le_of_ble_eq_true rfl, Nat.le_of_ble_eq_true rfl⟩ h_o_3 ((fr5 (o + 3) (by omega)).trans m_o_3) (ci := 8) rfl rfl (Nat.le_of_ble_eq_true rfl) ⟨Nat.zero_le _, Nat.zero_le _⟩ dX1_keepSeen_23 (fun M7 H locs hp6 hP hS => ?_)
  obtain ⟨g9, fr10⟩ := hp6
  refine lv_aload_n hx hb dX1_keepSeen_26 rfl (lv_at hl 0 rfl) ?_
  refine lv_dup hx hb dX1_keepSeen_27 rfl ?_
  refine q_get (v := .int sk) (fs := logF ad o ak sk) X hK hP fX1_keepSeen_30 h_o ((fr10 o (by omega)).trans ((fr5 o (by omega)).trans m_o)) rfl dX1_keepSeen_28 ?_
  refine lv_iconst (v := 1) hx hb dX1_keepSeen_31 (by decide) ?_
  refine lv_iadd hx hb dX1_keepSeen_32 ?_
  refine q_put (fs := logF ad o ak sk) (fs' := logF ad o ak (sk + 1)) X hK hI hP hS fX1_keepSeen_30 fw_1_3 h_o ((fr10 o (by omega)).trans ((fr5 o (by omega)).trans m_o)) rfl rfl (Nat.le_of_ble_eq_true rfl) rfl dX1_keepSeen_33 (fun H locs hP hS => ?_)
  exact q_wvret X hr hlocks hP hS ⟨((va_up_ne M7 (.inr (1, logF ad o ak (sk + 1))) (show o + 4 ≠ o by omega)).trans g9), (va_up_self M7 o (.inr (1, logF ad o ak (sk + 1)))), (fun q n0 n1 => ((va_up_ne _ _ n1).trans ((fr10 q n0).trans (fr5 q n0))))⟩ dX1_keepSeen_36
set_option maxRecDepth 20000 in
theorem fX1_takeBackAct_26 : FL wsX1_takeBackAct RX1 26 1 1 := ⟨RX1, TX1, 5, rfl, by decide +kernel, by decide, by decide +kernel⟩
set_option maxRecDepth 20000 in
theorem fX1_takeBackAct_14 : FL wsX1_takeBackAct RX1 14 1 0 := ⟨RX1, TX1, 5, rfl, by decide +kernel, by decide, by decide +kernel⟩
theorem yd_X7_takeBack : YD yX7_takeBack 3 := ⟨by decide +kernel, by decide +kernel, by decide +kernel⟩
set_option maxHeartbeats 4000000 in
set_option maxRecDepth 100000 in
theorem c_X1_takeBackAct (l : Launch) (D : va_G) (cB cI cJ : ClassId) (ad : Nat → Nat) (n : Nat) (M : Nat → va_E) (hI : ipI ad n) (o g h : Nat) (ak sk op : Int32) (af plf : Nat → Int32) (h_o : o < n) (h_o_1 : o + 1 < n) (h_o_2 : o + 2 < n) (h_g : g < n) (h_g_1 : g + 1 < n) (h_g_2 : g + 2 < n) (m_o : M o = .inr (1, logF ad o ak sk)) (m_o_1 : M (o + 1) = .inr (8, [.int 3, .ref (ad (o + 2))])) (m_o_2 : M (o + 2) = .inl (cI, 120, .inl af)) (m_g : M g = .inr (7, standF ad g h op)) (m_g_1 : M (g + 1) = .inr (8, [.int 1, .ref (ad (g + 2))])) (m_g_2 : M (g + 2) = .inl (cI, 12, .inl plf)) (hog : o + 6 < g ∨ g + 2 < o) : cWv l D cB cI cJ ad n M yX1_takeBackAct wsX1_takeBackAct 2 45 [.ref (ad o), .ref (ad g)] (fun M' => M' o = .inr (1, logF ad o (ak - 1) sk) ∧ M' g = .inr (7, standF ad g h (tat 120 af ((ak - 1) * 3 + 2))) ∧ M' (g + 2) = .inl (cI, 12, .inl (tset 12 plf (tat 120 af ((ak - 1) * 3 + 0)) (tat 120 af ((ak - 1) * 3 + 1)))) ∧ ∀ q : Nat, q ≠ o → q ≠ g → q ≠ g + 2 → M' q = M q) := by
  refine q_body (cc := cX1_takeBackAct) (maxL := 2) (ret := none) (by decide) rfl (Nat.le_of_ble_eq_true rfl) ?_
  intro p e s m args below meth c ls X hr hlocks hK hP hl
  obtain ⟨hx, hb, hml, hown, hts⟩ := id X
  have hS : va_S (ipA ad n) s.heap s.heap [] := va_S.rf
  have hl : lv_has ls 2 [(0, .ref (ad o)), (1, .ref (ad g))] := hl
  refine lv_aload_n hx hb dX1_takeBackAct_0 rfl (lv_at hl 0 rfl) ?_
  refine lv_dup hx hb dX1_takeBackAct_1 rfl ?_
  refine q_get (v := .int ak) (fs := logF ad o ak sk) X hK hP fX1_takeBackAct_26 h_o m_o rfl dX1_takeBackAct_2 ?_
  refine lv_iconst (v := 1) hx hb dX1_takeBackAct_5 (by decide) ?_
  refine lv_isub hx hb dX1_takeBackAct_6 ?_
  refine q_put (fs := logF ad o ak sk) (fs' := logF ad o (ak - 1) sk) X hK hI hP hS fX1_takeBackAct_26 fw_1_1 h_o m_o rfl rfl (Nat.le_of_ble_eq_true rfl) rfl dX1_takeBackAct_7 (fun H locs hP hS => ?_)
  refine lv_aload_n hx hb dX1_takeBackAct_10 rfl (lv_at hl 1 rfl) ?_
  refine lv_aload_n hx hb dX1_takeBackAct_11 rfl (lv_at hl 0 rfl) ?_
  refine q_get (v := .ref (ad (o + 1))) (fs := logF ad o (ak - 1) sk) X hK hP fX1_takeBackAct_14 h_o (va_up_self M o (.inr (1, logF ad o (ak - 1) sk))) rfl dX1_takeBackAct_12 ?_
  refine lv_aload_n hx hb dX1_takeBackAct_15 rfl (lv_at hl 0 rfl) ?_
  refine q_get (v := .int (ak - 1)) (fs := logF ad o (ak - 1) sk) X hK hP fX1_takeBackAct_26 h_o (va_up_self M o (.inr (1, logF ad o (ak - 1) sk))) rfl dX1_takeBackAct_16 ?_
  refine lv_iconst (v := 0) hx hb dX1_takeBackAct_19 (by decide) ?_
  refine q_rdV (As := [.int (ak - 1), .int 0]) (rest := [.ref (ad g)]) (c_X8_at_ l D cB cI cJ ad n (va_up M o (.inr (1, logF ad o (ak - 1) sk))) (o + 1) (o + 2) 120 3 af (ak - 1) 0 h_o_1 h_o_2 ((va_up_ne M (.inr (1, logF ad o (ak - 1) sk)) (show o + 1 ≠ o by omega)).trans m_o_1) ((va_up_ne M (.inr (1, logF ad o (ak - 1) sk)) (show o + 2 ≠ o by omega)).trans m_o_2) (by decide)) X hK hP hS hl.1 rfl gX1_takeBackAct_X8_at_ yd_X8_at_ ⟨Nat.le_of_ble_eq_true rfl, Nat.le_of_ble_eq_true rfl⟩ h_o_1 ((va_up_ne M (.inr (1, logF ad o (ak - 1) sk)) (show o + 1 ≠ o by omega)).trans m_o_1) (ci := 8) rfl rfl (Nat.le_of_ble_eq_true rfl) ⟨Nat.zero_le _, Nat.zero_le _⟩ dX1_takeBackAct_20 ?_
  refine lv_aload_n hx hb dX1_takeBackAct_23 rfl (lv_at hl 0 rfl) ?_
  refine q_get (v := .ref (ad (o + 1))) (fs := logF ad o (ak - 1) sk) X hK hP fX1_takeBackAct_14 h_o (va_up_self M o (.inr (1, logF ad o (ak - 1) sk))) rfl dX1_takeBackAct_24 ?_
  refine lv_aload_n hx hb dX1_takeBackAct_27 rfl (lv_at hl 0 rfl) ?_
  refine q_get (v := .int (ak - 1)) (fs := logF ad o (ak - 1) sk) X hK hP fX1_takeBackAct_26 h_o (va_up_self M o (.inr (1, logF ad o (ak - 1) sk))) rfl dX1_takeBackAct_28 ?_
  refine lv_iconst (v := 1) hx hb dX1_takeBackAct_31 (by decide) ?_
  refine q_rdV (As := [.int (ak - 1), .int 1]) (rest := [.int (tat 120 af ((ak - 1) * 3 + 0)), .ref (ad g)]) (c_X8_at_ l D cB cI cJ ad n (va_up M o (.inr (1, logF ad o (ak - 1) sk))) (o + 1) (o + 2) 120 3 af (ak - 1) 1 h_o_1 h_o_2 ((va_up_ne M (.inr (1, logF ad o (ak - 1) sk)) (show o + 1 ≠ o by omega)).trans m_o_1) ((va_up_ne M (.inr (1, logF ad o (ak - 1) sk)) (show o + 2 ≠ o by omega)).trans m_o_2) (by decide)) X hK hP hS hl.1 rfl gX1_takeBackAct_X8_at_ yd_X8_at_ ⟨Nat.le_of_ble_eq_true rfl, Nat.le_of_ble_eq_true rfl⟩ h_o_1 ((va_up_ne M (.inr (1, logF ad o (ak - 1) sk)) (show o + 1 ≠ o by omega)).trans m_o_1) (ci := 8) rfl rfl (Nat.le_of_ble_eq_true rfl) ⟨Nat.zero_le _, Nat.zero_le _⟩ dX1_takeBackAct_32 ?_
  refine lv_aload_n hx hb dX1_takeBackAct_35 rfl (lv_at hl 0 rfl) ?_
  refine q_get (v := .ref (ad (o + 1))) (fs := logF ad o (ak - 1) sk) X hK hP fX1_takeBackAct_14 h_o (va_up_self M o (.inr (1, logF ad o (ak - 1) sk))) rfl dX1_takeBackAct_36 ?_
  refine lv_aload_n hx hb dX1_takeBackAct_39 rfl (lv_at hl 0 rfl) ?_
  refine q_get (v := .int (ak - 1)) (fs := logF ad o (ak - 1) sk) X hK hP fX1_takeBackAct_26 h_o (va_up_self M o (.inr (1, logF ad o (ak - 1) sk))) rfl dX1_takeBackAct_40 ?_
  refine lv_iconst (v := 2) hx hb dX1_takeBackAct_43 (by decide) ?_
  refine q_rdV (As := [.int (ak - 1), .int 2]) (rest := [.int (tat 120 af ((ak - 1) * 3 + 1)), .int (tat 120 af ((ak - 1) * 3 + 0)), .ref (ad g)]) (c_X8_at_ l D cB cI cJ ad n (va_up M o (.inr (1, logF ad o (ak - 1) sk))) (o + 1) (o + 2) 120 3 af (ak - 1) 2 h_o_1 h_o_2 ((va_up_ne M (.inr (1, logF ad o (ak - 1) sk)) (show o + 1 ≠ o by omega)).trans m_o_1) ((va_up_ne M (.inr (1, logF ad o (ak - 1) sk)) (show o + 2 ≠ o by omega)).trans m_o_2) (by decide)) X hK hP hS hl.1 rfl gX1_takeBackAct_X8_at_ yd_X8_at_ ⟨Nat.le_of_ble_eq_true rfl, Nat.le_of_ble_eq_true rfl⟩ h_o_1 ((va_up_ne M (.inr (1, logF ad o (ak - 1) sk)) (show o + 1 ≠ o by omega)).trans m_o_1) (ci := 8) rfl rfl (Nat.le_of_ble_eq_true rfl) ⟨Nat.zero_le _, Nat.zero_le _⟩ dX1_takeBackAct_44 ?_
  refine q_wrVv (As := [.int (tat 120 af ((ak - 1) * 3 + 0)), .int (tat 120 af ((ak - 1) * 3 + 1)), .int (tat 120 af ((ak - 1) * 3 + 2))]) (rest := []) (c_X7_takeBack l D cB cI cJ ad n (va_up M o (.inr (1, logF ad o (ak - 1) sk))) hI g h op plf (tat 120 af ((ak - 1) * 3 + 0)) (tat 120 af ((ak - 1) * 3 + 1)) (tat 120 af ((ak - 1) * 3 + 2)) h_g h_g_1 h_g_2 ((va_up_ne M (.inr (1, logF ad o (ak - 1) sk)) (show g ≠ o by omega)).trans m_g) ((va_up_ne M (.inr (1, logF ad o (ak - 1) sk)) (show g + 1 ≠ o by omega)).trans m_g_1) ((va_up_ne M (.inr (1, logF ad o (ak - 1) sk)) (show g + 2 ≠ o by omega)).trans m_g_2) ) X hK hP hS hl.1 rfl gX1_takeBackAct_X7_takeBack yd_X7_takeBack ⟨Nat.le_of_ble_eq_true rfl, Nat.le_of_ble_eq_true rfl⟩ h_g ((va_up_ne M (.inr (1, logF ad o (ak - 1) sk)) (show g ≠ o by omega)).trans m_g) (ci := 7) rfl rfl (Nat.le_of_ble_eq_true rfl) ⟨Nat.zero_le _, Nat.zero_le _⟩ dX1_takeBackAct_47 (fun M4 H locs hp3 hP hS => ?_)
  obtain ⟨g6, g7, fr8⟩ := hp3
  exact q_wvret X hr hlocks hP hS ⟨((fr8 o (by omega) (by omega)).trans (va_up_self M o (.inr (1, logF ad o (ak - 1) sk)))), g6, g7, (fun q n0 n1 n2 => ((fr8 q n1 n2).trans (va_up_ne _ _ n0)))⟩ dX1_takeBackAct_50
set_option maxRecDepth 20000 in
theorem fX1_agreesWith_30 : FL wsX1_agreesWith RX1 30 1 3 := ⟨RX1, TX1, 5, rfl, by decide +kernel, by decide, by decide +kernel⟩
set_option maxRecDepth 20000 in
theorem fX1_agreesWith_20 : FL wsX1_agreesWith RX1 20 1 2 := ⟨RX1, TX1, 5, rfl, by decide +kernel, by decide, by decide +kernel⟩
def s_X1_agreesWith_2 (nt : Nat) (sf : Nat → Int32) (tf : Nat → Int32) (plf : Nat → Int32) : Nat → Nat → Int32
  | 0, _ => 1
  | r + 1, t2 => if (wiS nt tf plf (tat 12 sf ((nI t2) * 2 + 0))) = (tat 12 sf ((nI t2) * 2 + 1)) then s_X1_agreesWith_2 nt sf tf plf r (t2 + 1) else 0
def s_X1_agreesWith (ns : Nat) (nt : Nat) (sf : Nat → Int32) (tf : Nat → Int32) (plf : Nat → Int32) : Int32 := (s_X1_agreesWith_2 nt sf tf plf ns 0)
set_option maxHeartbeats 4000000 in
set_option maxRecDepth 100000 in
theorem c_X1_agreesWith (l : Launch) (D : va_G) (cB cI cJ : ClassId) (ad : Nat → Nat) (n : Nat) (M : Nat → va_E) (o g h ns nt : Nat) (ak op : Int32) (hv sf tf plf : Nat → Int32) (h_o : o < n) (h_o_3 : o + 3 < n) (h_o_4 : o + 4 < n) (h_g : g < n) (h_g_1 : g + 1 < n) (h_g_2 : g + 2 < n) (h_h : h < n) (h_h_5 : h + 5 < n) (h_h_6 : h + 6 < n) (m_o : M o = .inr (1, logF ad o ak (nI ns))) (m_o_3 : M (o + 3) = .inr (8, [.int 2, .ref (ad (o + 4))])) (m_o_4 : M (o + 4) = .inl (cI, 12, .inl sf)) (m_g : M g = .inr (7, standF ad g h op)) (m_g_1 : M (g + 1) = .inr (8, [.int 1, .ref (ad (g + 2))])) (m_g_2 : M (g + 2) = .inl (cI, 12, .inl plf)) (m_h : M h = .inr (0, hallF ad h hv)) (m_h_5 : M (h + 5) = .inr (8, [.int 7, .ref (ad (h + 6))])) (m_h_6 : M (h + 6) = .inl (cI, 84, .inl tf)) (h7 : hv 7 = nI nt) (hnt : nt ≤ 12) (hns : ns ≤ 6) : cR l D cB cI cJ ad n M yX1_agreesWith wsX1_agreesWith 3 68 [.ref (ad o), .ref (ad g)] (s_X1_agreesWith ns nt sf tf plf) := by
  refine q_body (cc := cX1_agreesWith) (maxL := 3) (ret := (some .boolean)) (by decide) rfl (Nat.le_of_ble_eq_true rfl) ?_
  intro p e s m args below meth c ls X hr hlocks hK hP hl
  obtain ⟨hx, hb, hml, hown, hts⟩ := id X
  have hS : va_S (ipA ad n) s.heap s.heap [] := va_S.rf
  have hl : lv_has ls 3 [(0, .ref (ad o)), (1, .ref (ad g))] := hl
  refine lv_iconst (v := 0) hx hb dX1_agreesWith_0 (by decide) ?_
  refine lv_istore_n (lv' := [(2, .int 0), (0, .ref (ad o)), (1, .ref (ad g))]) hx hb dX1_agreesWith_1 rfl hl (by decide) rfl (fun ls hl => ?_)
  have loop_2 : ∀ (fuel : Nat) (t2 : Nat), ns - (t2) < fuel → t2 ≤ ns → s_X1_agreesWith_2 nt sf tf plf (ns - (t2)) t2 = s_X1_agreesWith ns nt sf tf plf → ∀ (ls : Array Slot), lv_has ls 3 [(2, .int (nI t2)), (0, .ref (ad o)), (1, .ref (ad g))] → W p l e (rmOf 3 68) s m args below meth c s.heap [] 0 0 (MQ below (vp_Si (fun r9 => r9 = s_X1_agreesWith ns nt sf tf plf)) args s 0 0 (fun _ => False)) (F0 m 2 ls []) := by
    intro fuel
    induction fuel with
    | zero =>
      intro t2 hz
      exact absurd hz (Nat.not_lt_zero _)
    | succ fuel ih_2 =>
      intro t2 hz_2 h_t2 hB_2 ls hl
      skip
      refine lv_iload_n hx hb dX1_agreesWith_2 rfl (lv_at hl 0 rfl) ?_
      refine lv_aload_n hx hb dX1_agreesWith_3 rfl (lv_at hl 1 rfl) ?_
      refine q_get (v := .int (nI ns)) (fs := logF ad o ak (nI ns)) X hK hP fX1_agreesWith_30 h_o m_o rfl dX1_agreesWith_4 ?_
      refine lv_icmp_ge (tgt := 43) hx hb dX1_agreesWith_7 (by decide) (fun c_7 => ?_) (fun c_7 => ?_)
      · skip
        have h9_2 : t2 = ns := eq_of_le (t := t2) (k := ns) c_7 (by omega) h_t2
        subst t2
        refine lv_iconst (v := 1) hx hb dX1_agreesWith_43 (by decide) ?_
        exact q_zret X hr hlocks (rfl) (by rw [← hB_2, Nat.sub_self, s_X1_agreesWith_2]) dX1_agreesWith_44
      · skip
        have h9_2 : t2 < ns := lt_of_nlt (t := t2) (k := ns) c_7 (by omega) h_t2
        refine lv_aload_n hx hb dX1_agreesWith_10 rfl (lv_at hl 2 rfl) ?_
        refine lv_aload_n hx hb dX1_agreesWith_11 rfl (lv_at hl 1 rfl) ?_
        refine q_get (v := .ref (ad (o + 3))) (fs := logF ad o ak (nI ns)) X hK hP fX1_agreesWith_20 h_o m_o rfl dX1_agreesWith_12 ?_
        refine lv_iload_n hx hb dX1_agreesWith_15 rfl (lv_at hl 0 rfl) ?_
        refine lv_iconst (v := 0) hx hb dX1_agreesWith_16 (by decide) ?_
        refine q_rdV (As := [.int (nI t2), .int 0]) (rest := [.ref (ad g)]) (c_X8_at_ l D cB cI cJ ad n M (o + 3) (o + 4) 12 2 sf (nI t2) 0 h_o_3 h_o_4 m_o_3 m_o_4 (by decide)) X hK hP hS hl.1 rfl gX1_agreesWith_X8_at_ yd_X8_at_ ⟨Nat.le_of_ble_eq_true rfl, Nat.le_of_ble_eq_true rfl⟩ h_o_3 m_o_3 (ci := 8) rfl rfl (Nat.le_of_ble_eq_true rfl) ⟨Nat.zero_le _, Nat.zero_le _⟩ dX1_agreesWith_17 ?_
        refine q_rdV (As := [.int (tat 12 sf ((nI t2) * 2 + 0))]) (rest := []) (c_X7_weightIn l D cB cI cJ ad n M g h nt op hv tf plf (tat 12 sf ((nI t2) * 2 + 0)) h_g h_g_1 h_g_2 h_h h_h_5 h_h_6 m_g m_g_1 m_g_2 m_h m_h_5 m_h_6 h7 hnt) X hK hP hS hl.1 rfl gX1_agreesWith_X7_weightIn yd_X7_weightIn ⟨Nat.le_of_ble_eq_true rfl, Nat.le_of_ble_eq_true rfl⟩ h_g m_g (ci := 7) rfl rfl (Nat.le_of_ble_eq_true rfl) ⟨Nat.zero_le _, Nat.zero_le _⟩ dX1_agreesWith_20 ?_
        refine lv_aload_n hx hb dX1_agreesWith_23 rfl (lv_at hl 1 rfl) ?_
        refine q_get (v := .ref (ad (o + 3))) (fs := logF ad o ak (nI ns)) X hK hP fX1_agreesWith_20 h_o m_o rfl dX1_agreesWith_24 ?_
        refine lv_iload_n hx hb dX1_agreesWith_27 rfl (lv_at hl 0 rfl) ?_
        refine lv_iconst (v := 1) hx hb dX1_agreesWith_28 (by decide) ?_
        refine q_rdV (As := [.int (nI t2), .int 1]) (rest := [.int (wiS nt tf plf (tat 12 sf ((nI t2) * 2 + 0)))]) (c_X8_at_ l D cB cI cJ ad n M (o + 3) (o + 4) 12 2 sf (nI t2) 1 h_o_3 h_o_4 m_o_3 m_o_4 (by decide)) X hK hP hS hl.1 rfl gX1_agreesWith_X8_at_ yd_X8_at_ ⟨Nat.le_of_ble_eq_true rfl, Nat.le_of_ble_eq_true rfl⟩ h_o_3 m_o_3 (ci := 8) rfl rfl (Nat.le_of_ble_eq_true rfl) ⟨Nat.zero_le _, Nat.zero_le _⟩ dX1_agreesWith_29 ?_
        refine lv_icmp_eq (tgt := 37) hx hb dX1_agreesWith_32 (by decide) (fun c_32 => ?_) (fun c_32 => ?_)
        · skip
          refine lv_iinc (v := ((nI t2) + 1)) (lv' := [(2, .int ((nI t2) + 1)), (0, .ref (ad o)), (1, .ref (ad g))]) hx hb dX1_agreesWith_37 hl (k := 0) rfl rfl (by decide) rfl (fun ls hl => ?_)
          refine lv_goto (tgt := 2) hx hb dX1_agreesWith_40 (by decide) ?_
          exact ih_2 (t2 + 1)  (by omega) (by omega) (by rw [← hB_2, show ns - (t2) = (ns - (t2 + 1)) + 1 by omega, s_X1_agreesWith_2, if_pos c_32]) ls (by rw [(show nI (t2 + 1) = nI t2 + 1 by exact nI_succ _)]; exact lv_sub hl [0, 1, 2] rfl)
        · skip
          refine lv_iconst (v := 0) hx hb dX1_agreesWith_35 (by decide) ?_
          exact q_zret X hr hlocks (rfl) (by rw [← hB_2, show ns - t2 = (ns - (t2 + 1)) + 1 by omega, s_X1_agreesWith_2, if_neg c_32]) dX1_agreesWith_36
  exact loop_2 (ns + 1) 0  (by omega) (by omega) (by rw [s_X1_agreesWith] <;> rfl) ls (lv_sub hl [0, 1, 2] rfl)
