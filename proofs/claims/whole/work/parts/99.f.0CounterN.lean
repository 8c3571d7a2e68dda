/-! the reference asked for a counter that is none -/
set_option maxHeartbeats 4000000 in
set_option maxRecDepth 100000 in
theorem c_X13_counterN (l : Launch) (D : va_G) (cB cI cJ : ClassId) (ad : Nat → Nat) (n : Nat) (M : Nat → va_E) (hI : ipI ad n) (mb : Nat) (mv : Nat → Int32) (x y z : Int32) (h_mb : mb < n) (m_mb : M mb = .inr (12, modF ad mb mv)) (gb : z < 0 ∨ 2 ≤ z ∨ s_X13_isIn y.toInt64 0 200 = 0) : cWi l D cB cI cJ ad n M yX13_counter wsX13_counter 1 25 [.ref (ad mb), .int x, .int y, .int z] (fun r M' => r = s_X13_fail ∧ M' mb = .inr (12, modF ad mb (upd (upd mv 2 0) 2 (if z < 0 then 1 else if z ≤ 1 then 2 else 1))) ∧ ∀ q : Nat, q ≠ mb → M' q = M q) := by
  refine q_body (cc := cX13_counter) (maxL := 10) (ret := (some .int)) (by decide) rfl (Nat.le_of_ble_eq_true rfl) ?_
  intro p e s m args below meth c ls X hr hlocks hK hP hl
  obtain ⟨hx, hb, hml, hown, hts⟩ := id X
  have hS : va_S (ipA ad n) s.heap s.heap [] := va_S.rf
  have hl : lv_has ls 10 [(0, .ref (ad mb)), (1, .int x), (2, .int y), (3, .int z)] := hl
  refine lv_aload_n hx hb dX13_counter_0 rfl (lv_at hl 0 rfl) ?_
  refine lv_iconst (v := 0) hx hb dX13_counter_1 (by decide) ?_
  refine q_put (fs := modF ad mb mv) (fs' := modF ad mb (upd mv 2 0)) X hK hI hP hS fX13_counter_173 fw_12_2 h_mb m_mb rfl rfl (Nat.le_of_ble_eq_true rfl) rfl dX13_counter_2 (fun H locs hP hS => ?_)
  refine lv_iload_n hx hb dX13_counter_5 rfl (lv_at hl 3 rfl) ?_
  refine lv_if_lt (tgt := 14) hx hb dX13_counter_6 (by decide) (fun c_6 => ?_) (fun c_6 => ?_)
  · skip
    refine lv_aload_n hx hb dX13_counter_14 rfl (lv_at hl 0 rfl) ?_
    refine lv_iconst (v := 1) hx hb dX13_counter_15 (by decide) ?_
    refine q_wrVi (As := [.int 1]) (rest := []) (c_X13_fail l D cB cI cJ ad n (va_up M mb (.inr (12, modF ad mb (upd mv 2 0)))) hI mb (upd mv 2 0) 1 h_mb (va_up_self M mb (.inr (12, modF ad mb (upd mv 2 0)))) ) X hK hP hS hl.1 rfl gX13_counter_X13_fail yd_X13_fail ⟨Nat.le_of_ble_eq_true rfl, Nat.le_of_ble_eq_true rfl⟩ h_mb (va_up_self M mb (.inr (12, modF ad mb (upd mv 2 0)))) (ci := 12) rfl rfl (Nat.le_of_ble_eq_true rfl) ⟨Nat.zero_le _, Nat.zero_le _⟩ dX13_counter_16 (fun r5 M4 H locs hp3 hP hS => ?_)
    obtain ⟨rfl, g6, fr7⟩ := hp3
    exact q_wzret X hr hlocks hP hS (rfl) ⟨rfl, (by rw [if_pos c_6]; exact g6), (fun q n2 => ((fr7 q n2).trans (va_up_ne _ _ n2)))⟩ dX13_counter_19
  · skip
    refine lv_iload_n hx hb dX13_counter_9 rfl (lv_at hl 3 rfl) ?_
    refine lv_iconst (v := 1) hx hb dX13_counter_10 (by decide) ?_
    refine lv_icmp_le (tgt := 20) hx hb dX13_counter_11 (by decide) (fun c_11 => ?_) (fun c_11 => ?_)
    · skip
      refine lv_iload_n hx hb dX13_counter_20 rfl (lv_at hl 2 rfl) ?_
      refine lv_i2l hx hb dX13_counter_21 rfl ?_
      refine lv_lconst (v := 0) hx hb dX13_counter_22 (by decide) ?_
      refine lv_ldc2 (v := 200) hx hb hown (hts _ (by decide +kernel)) dX13_counter_23 ?_
      refine q_rdS (As := [.long (y.toInt64), .long 0, .long 200]) (rest := []) (c_X13_isIn l D cB cI cJ ad n (va_up M mb (.inr (12, modF ad mb (upd mv 2 0)))) (y.toInt64) 0 200   ) X hK hP hS hl.1 rfl gX13_counter_X13_isIn yd_X13_isIn ⟨Nat.le_of_ble_eq_true rfl, Nat.le_of_ble_eq_true rfl⟩ rfl (Nat.le_of_ble_eq_true rfl) ⟨Nat.zero_le _, Nat.zero_le _⟩ dX13_counter_26 ?_
      refine lv_if_ne (tgt := 38) hx hb dX13_counter_29 (by decide) (fun c_29 => ?_) (fun c_29 => ?_)
      · exact absurd (gb.elim (fun q => absurd q c_6) (fun q => q.elim (fun q => absurd (Int32.le_trans q c_11) (by decide)) id)) c_29
      · skip
        refine lv_aload_n hx hb dX13_counter_32 rfl (lv_at hl 0 rfl) ?_
        refine lv_iconst (v := 2) hx hb dX13_counter_33 (by decide) ?_
        refine q_wrVi (As := [.int 2]) (rest := []) (c_X13_fail l D cB cI cJ ad n (va_up M mb (.inr (12, modF ad mb (upd mv 2 0)))) hI mb (upd mv 2 0) 2 h_mb (va_up_self M mb (.inr (12, modF ad mb (upd mv 2 0)))) ) X hK hP hS hl.1 rfl gX13_counter_X13_fail yd_X13_fail ⟨Nat.le_of_ble_eq_true rfl, Nat.le_of_ble_eq_true rfl⟩ h_mb (va_up_self M mb (.inr (12, modF ad mb (upd mv 2 0)))) (ci := 12) rfl rfl (Nat.le_of_ble_eq_true rfl) ⟨Nat.zero_le _, Nat.zero_le _⟩ dX13_counter_34 (fun r5 M4 H locs hp3 hP hS => ?_)
        obtain ⟨rfl, g6, fr7⟩ := hp3
        exact q_wzret X hr hlocks hP hS (rfl) ⟨rfl, (by rw [if_neg c_6, if_pos c_11]; exact g6), (fun q n2 => ((fr7 q n2).trans (va_up_ne _ _ n2)))⟩ dX13_counter_37
    · skip
      refine lv_aload_n hx hb dX13_counter_14 rfl (lv_at hl 0 rfl) ?_
      refine lv_iconst (v := 1) hx hb dX13_counter_15 (by decide) ?_
      refine q_wrVi (As := [.int 1]) (rest := []) (c_X13_fail l D cB cI cJ ad n (va_up M mb (.inr (12, modF ad mb (upd mv 2 0)))) hI mb (upd mv 2 0) 1 h_mb (va_up_self M mb (.inr (12, modF ad mb (upd mv 2 0)))) ) X hK hP hS hl.1 rfl gX13_counter_X13_fail yd_X13_fail ⟨Nat.le_of_ble_eq_true rfl, Nat.le_of_ble_eq_true rfl⟩ h_mb (va_up_self M mb (.inr (12, modF ad mb (upd mv 2 0)))) (ci := 12) rfl rfl (Nat.le_of_ble_eq_true rfl) ⟨Nat.zero_le _, Nat.zero_le _⟩ dX13_counter_16 (fun r5 M4 H locs hp3 hP hS => ?_)
      obtain ⟨rfl, g6, fr7⟩ := hp3
      exact q_wzret X hr hlocks hP hS (rfl) ⟨rfl, (by rw [if_neg c_6, if_neg c_11]; exact g6), (fun q n2 => ((fr7 q n2).trans (va_up_ne _ _ n2)))⟩ dX13_counter_19
