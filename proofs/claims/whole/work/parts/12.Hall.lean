/-! PoundsOver$Hall -/
def bit1 (x : Int32) (t : Nat) : Prop := ¬ (x >>> (nI t &&& 31)) &&& 1 = 0
/-- the price of a weight, the posts from i on, r of them -/
def prS (qf : Nat → Int32) (w : Int32) : Nat → Nat → Int32
  | 0, _ => -1
  | r + 1, i => if tat 12 qf (nI i * 2 + 0) < w then prS qf w r (i + 1) else tat 12 qf (nI i * 2 + 1)
def smS (tf : Nat → Int32) (bits col : Int32) : Nat → Int32
  | 0 => 0
  | t + 1 => if (bits >>> (nI t &&& 31)) &&& 1 = 0 then smS tf bits col t else smS tf bits col t + tat 84 tf (nI t * 7 + col)
def okS (tf : Nat → Int32) (kind : Int32) : Nat → Int32
  | 0 => 0
  | t + 1 => if tat 84 tf (nI t * 7 + 0) = kind then okS tf kind t ||| (1 <<< (nI t &&& 31)) else okS tf kind t
set_option maxRecDepth 20000 in
theorem fX0_priceOf_23 : FL wsX0_priceOf RX0 23 0 2 := ⟨RX0, TX0, 12, rfl, by decide +kernel, by decide, by decide +kernel⟩
theorem yd_X8_at_ : YD yX8_at_ 2 := ⟨by decide +kernel, by decide +kernel, by decide +kernel⟩
set_option maxRecDepth 20000 in
theorem fX0_priceOf_49 : FL wsX0_priceOf RX0 49 0 8 := ⟨RX0, TX0, 12, rfl, by decide +kernel, by decide, by decide +kernel⟩
set_option maxRecDepth 20000 in
theorem fX0_priceOf_26 : FL wsX0_priceOf RX0 26 0 3 := ⟨RX0, TX0, 12, rfl, by decide +kernel, by decide, by decide +kernel⟩
set_option maxHeartbeats 4000000 in
set_option maxRecDepth 100000 in
theorem c_X0_priceOf (l : Launch) (D : va_G) (cB cI cJ : ClassId) (ad : Nat → Nat) (n : Nat) (M : Nat → va_E) (h nq : Nat) (hv tf qf : Nat → Int32) (x : Int32) (h_h : h < n) (h_h_5 : h + 5 < n) (h_h_6 : h + 6 < n) (h_h_7 : h + 7 < n) (h_h_8 : h + 8 < n) (m_h : M h = .inr (0, hallF ad h hv)) (m_h_5 : M (h + 5) = .inr (8, [.int 7, .ref (ad (h + 6))])) (m_h_6 : M (h + 6) = .inl (cI, 84, .inl tf)) (m_h_7 : M (h + 7) = .inr (8, [.int 2, .ref (ad (h + 8))])) (m_h_8 : M (h + 8) = .inl (cI, 12, .inl qf)) (h8 : hv 8 = nI nq) (hnq : nq ≤ 6) : cR l D cB cI cJ ad n M yX0_priceOf wsX0_priceOf 1 23 [.ref (ad h), .int x] (prS qf (tat 84 tf (x * 7 + 1)) nq 0) := by
  refine q_body (cc := cX0_priceOf) (maxL := 4) (ret := (some .int)) (by decide) rfl (Nat.le_of_ble_eq_true rfl) ?_
  intro p e s m args below meth c ls X hr hlocks hK hP hl
  obtain ⟨hx, hb, hml, hown, hts⟩ := id X
  have hS : va_S (ipA ad n) s.heap s.heap [] := va_S.rf
  have hl : lv_has ls 4 [(0, .ref (ad h)), (1, .int x)] := hl
  refine lv_aload_n hx hb dX0_priceOf_0 rfl (lv_at hl 0 rfl) ?_
  refine q_get (v := .ref (ad (h + 5))) (fs := hallF ad h hv) X hK hP fX0_priceOf_23 h_h m_h rfl dX0_priceOf_1 ?_
  refine lv_iload_n hx hb dX0_priceOf_4 rfl (lv_at hl 1 rfl) ?_
  refine lv_iconst (v := 1) hx hb dX0_priceOf_5 (by decide) ?_
  refine q_rdV (As := [.int x, .int 1]) (rest := []) (c_X8_at_ l D cB cI cJ ad n M (h + 5) (h + 6) 84 7 tf x 1 h_h_5 h_h_6 m_h_5 m_h_6 (by decide)) X hK hP hS hl.1 rfl gX0_priceOf_X8_at_ yd_X8_at_ ⟨Nat.le_of_ble_eq_true rfl, Nat.le_of_ble_eq_true rfl⟩ h_h_5 m_h_5 (ci := 8) rfl rfl (Nat.le_of_ble_eq_true rfl) ⟨Nat.zero_le _, Nat.zero_le _⟩ dX0_priceOf_6 ?_
  refine lv_istore_n (lv' := [(2, .int (tat 84 tf (x * 7 + 1))), (0, .ref (ad h)), (1, .int x)]) hx hb dX0_priceOf_9 rfl hl (by decide) rfl (fun ls hl => ?_)
  refine lv_iconst (v := 0) hx hb dX0_priceOf_10 (by decide) ?_
  refine lv_istore_n (lv' := [(3, .int 0), (2, .int (tat 84 tf (x * 7 + 1))), (0, .ref (ad h)), (1, .int x)]) hx hb dX0_priceOf_11 rfl hl (by decide) rfl (fun ls hl => ?_)
  have loop_12 : ∀ (fuel : Nat) (t : Nat) (x3 : Int32), nq - t < fuel → (t ≤ nq) → (prS qf (tat 84 tf (x * 7 + 1)) (nq - t) t = prS qf (tat 84 tf (x * 7 + 1)) nq 0) → x3 = nI t → ∀ (ls : Array Slot), lv_has ls 4 [(0, .ref (ad h)), (2, .int (tat 84 tf (x * 7 + 1))), (3, .int x3)] → W p l e (rmOf 1 23) s m args below meth c s.heap [] 0 0 (MQ below (vp_Si (fun r9 => r9 = prS qf (tat 84 tf (x * 7 + 1)) nq 0)) args s 0 0 (fun _ => False)) (F0 m 12 ls []) := by
    intro fuel
    induction fuel with
    | zero =>
      intro t x3 hz
      exact absurd hz (Nat.not_lt_zero _)
    | succ fuel ih_12 =>
      intro t x3 hz_12 ht hr9 e3 ls hl
      subst e3
      skip
      refine lv_iload_n hx hb dX0_priceOf_12 rfl (lv_at hl 2 rfl) ?_
      refine lv_aload_n hx hb dX0_priceOf_13 rfl (lv_at hl 0 rfl) ?_
      refine q_get (v := .int (hv 8)) (fs := hallF ad h hv) X hK hP fX0_priceOf_49 h_h m_h rfl dX0_priceOf_14 ?_
      refine lv_icmp_ge (tgt := 49) hx hb dX0_priceOf_17 (by decide) (fun c_17 => ?_) (fun c_17 => ?_)
      · skip
        refine lv_iconst (v := (-1)) hx hb dX0_priceOf_49 (by decide) ?_
        exact q_iret hb hx hr hlocks (by rw [h8] at c_17; have h9 := eq_of_le c_17 (by omega) ht; subst h9; rw [← hr9, Nat.sub_self]; try rfl) dX0_priceOf_50
      · skip
        refine lv_iload_n hx hb dX0_priceOf_20 rfl (lv_at hl 1 rfl) ?_
        refine lv_aload_n hx hb dX0_priceOf_21 rfl (lv_at hl 0 rfl) ?_
        refine q_get (v := .ref (ad (h + 7))) (fs := hallF ad h hv) X hK hP fX0_priceOf_26 h_h m_h rfl dX0_priceOf_22 ?_
        refine lv_iload_n hx hb dX0_priceOf_25 rfl (lv_at hl 2 rfl) ?_
        refine lv_iconst (v := 0) hx hb dX0_priceOf_26 (by decide) ?_
        refine q_rdV (As := [.int (nI t), .int 0]) (rest := [.int (tat 84 tf (x * 7 + 1))]) (c_X8_at_ l D cB cI cJ ad n M (h + 7) (h + 8) 12 2 qf (nI t) 0 h_h_7 h_h_8 m_h_7 m_h_8 (by decide)) X hK hP hS hl.1 rfl gX0_priceOf_X8_at_ yd_X8_at_ ⟨Nat.le_of_ble_eq_true rfl, Nat.le_of_ble_eq_true rfl⟩ h_h_7 m_h_7 (ci := 8) rfl rfl (Nat.le_of_ble_eq_true rfl) ⟨Nat.zero_le _, Nat.zero_le _⟩ dX0_priceOf_27 ?_
        refine lv_icmp_gt (tgt := 43) hx hb dX0_priceOf_30 (by decide) (fun c_30 => ?_) (fun c_30 => ?_)
        · skip
          refine lv_iinc (v := ((nI t) + 1)) (lv' := [(3, .int ((nI t) + 1)), (0, .ref (ad h)), (2, .int (tat 84 tf (x * 7 + 1)))]) hx hb dX0_priceOf_43 hl (k := 2) rfl rfl (by decide) rfl (fun ls hl => ?_)
          refine lv_goto (tgt := 12) hx hb dX0_priceOf_46 (by decide) ?_
          exact ih_12 (t + 1) ((nI t) + 1) (by rw [h8] at c_17; have := lt_of_nlt c_17 (by omega) ht; omega) (by rw [h8] at c_17; have := lt_of_nlt c_17 (by omega) ht; omega) (by rw [h8] at c_17; have h9 := lt_of_nlt c_17 (by omega) ht; rw [← hr9, show nq - t = (nq - (t + 1)) + 1 by omega, prS, if_pos c_30]) (by first | rfl | exact nI_0.symm | exact nI_1 _) ls (lv_sub hl [1, 2, 0] rfl)
        · skip
          refine lv_aload_n hx hb dX0_priceOf_33 rfl (lv_at hl 0 rfl) ?_
          refine q_get (v := .ref (ad (h + 7))) (fs := hallF ad h hv) X hK hP fX0_priceOf_26 h_h m_h rfl dX0_priceOf_34 ?_
          refine lv_iload_n hx hb dX0_priceOf_37 rfl (lv_at hl 2 rfl) ?_
          refine lv_iconst (v := 1) hx hb dX0_priceOf_38 (by decide) ?_
          refine q_rdV (As := [.int (nI t), .int 1]) (rest := []) (c_X8_at_ l D cB cI cJ ad n M (h + 7) (h + 8) 12 2 qf (nI t) 1 h_h_7 h_h_8 m_h_7 m_h_8 (by decide)) X hK hP hS hl.1 rfl gX0_priceOf_X8_at_ yd_X8_at_ ⟨Nat.le_of_ble_eq_true rfl, Nat.le_of_ble_eq_true rfl⟩ h_h_7 m_h_7 (ci := 8) rfl rfl (Nat.le_of_ble_eq_true rfl) ⟨Nat.zero_le _, Nat.zero_le _⟩ dX0_priceOf_39 ?_
          exact q_iret hb hx hr hlocks (by rw [h8] at c_17; have h9 := lt_of_nlt c_17 (by omega) ht; rw [← hr9, show nq - t = (nq - (t + 1)) + 1 by omega, prS, if_neg c_30]) dX0_priceOf_42
  exact loop_12 (nq + 1) 0 0 (by omega) (by omega) (by rfl) (by first | rfl | exact nI_0.symm | exact nI_1 _) ls (lv_sub hl [2, 1, 0] rfl)
set_option maxRecDepth 20000 in
theorem fX0_sumOf_46 : FL wsX0_sumOf RX0 46 0 7 := ⟨RX0, TX0, 12, rfl, by decide +kernel, by decide, by decide +kernel⟩
set_option maxRecDepth 20000 in
theorem fX0_sumOf_23 : FL wsX0_sumOf RX0 23 0 2 := ⟨RX0, TX0, 12, rfl, by decide +kernel, by decide, by decide +kernel⟩
set_option maxHeartbeats 4000000 in
set_option maxRecDepth 100000 in
theorem c_X0_sumOf (l : Launch) (D : va_G) (cB cI cJ : ClassId) (ad : Nat → Nat) (n : Nat) (M : Nat → va_E) (h nt : Nat) (hv tf : Nat → Int32) (bits col : Int32) (h_h : h < n) (h_h_5 : h + 5 < n) (h_h_6 : h + 6 < n) (m_h : M h = .inr (0, hallF ad h hv)) (m_h_5 : M (h + 5) = .inr (8, [.int 7, .ref (ad (h + 6))])) (m_h_6 : M (h + 6) = .inl (cI, 84, .inl tf)) (h7 : hv 7 = nI nt) (hnt : nt ≤ 12) : cR l D cB cI cJ ad n M yX0_sumOf wsX0_sumOf 1 23 [.ref (ad h), .int bits, .int col] (smS tf bits col nt) := by
  refine q_body (cc := cX0_sumOf) (maxL := 5) (ret := (some .int)) (by decide) rfl (Nat.le_of_ble_eq_true rfl) ?_
  intro p e s m args below meth c ls X hr hlocks hK hP hl
  obtain ⟨hx, hb, hml, hown, hts⟩ := id X
  have hS : va_S (ipA ad n) s.heap s.heap [] := va_S.rf
  have hl : lv_has ls 5 [(0, .ref (ad h)), (1, .int bits), (2, .int col)] := hl
  refine lv_iconst (v := 0) hx hb dX0_sumOf_0 (by decide) ?_
  refine lv_istore_n (lv' := [(3, .int 0), (0, .ref (ad h)), (1, .int bits), (2, .int col)]) hx hb dX0_sumOf_1 rfl hl (by decide) rfl (fun ls hl => ?_)
  refine lv_iconst (v := 0) hx hb dX0_sumOf_2 (by decide) ?_
  refine lv_istore (lv' := [(4, .int 0), (3, .int 0), (0, .ref (ad h)), (1, .int bits), (2, .int col)]) hx hb dX0_sumOf_3 hl (by decide) rfl (fun ls hl => ?_)
  have loop_5 : ∀ (fuel : Nat) (t : Nat) (x3 : Int32) (x4 : Int32), nt - t < fuel → (t ≤ nt) → x3 = smS tf bits col t → x4 = nI t → ∀ (ls : Array Slot), lv_has ls 5 [(0, .ref (ad h)), (1, .int bits), (2, .int col), (3, .int x3), (4, .int x4)] → W p l e (rmOf 1 23) s m args below meth c s.heap [] 0 0 (MQ below (vp_Si (fun r9 => r9 = smS tf bits col nt)) args s 0 0 (fun _ => False)) (F0 m 5 ls []) := by
    intro fuel
    induction fuel with
    | zero =>
      intro t x3 x4 hz
      exact absurd hz (Nat.not_lt_zero _)
    | succ fuel ih_5 =>
      intro t x3 x4 hz_5 ht e3 e4 ls hl
      subst e3
      subst e4
      skip
      refine lv_iload hx hb dX0_sumOf_5 (lv_at hl 4 rfl) ?_
      refine lv_aload_n hx hb dX0_sumOf_7 rfl (lv_at hl 0 rfl) ?_
      refine q_get (v := .int (hv 7)) (fs := hallF ad h hv) X hK hP fX0_sumOf_46 h_h m_h rfl dX0_sumOf_8 ?_
      refine lv_icmp_ge (tgt := 42) hx hb dX0_sumOf_11 (by decide) (fun c_11 => ?_) (fun c_11 => ?_)
      · skip
        refine lv_iload_n hx hb dX0_sumOf_42 rfl (lv_at hl 3 rfl) ?_
        exact q_iret hb hx hr hlocks (by rw [h7] at c_11; rw [eq_of_le c_11 (by omega) ht]) dX0_sumOf_43
      · skip
        refine lv_iload_n hx hb dX0_sumOf_14 rfl (lv_at hl 1 rfl) ?_
        refine lv_iload hx hb dX0_sumOf_15 (lv_at hl 4 rfl) ?_
        refine lv_ishr hx hb dX0_sumOf_17 ?_
        refine lv_iconst (v := 1) hx hb dX0_sumOf_18 (by decide) ?_
        refine lv_iand hx hb dX0_sumOf_19 ?_
        refine lv_if_eq (tgt := 36) hx hb dX0_sumOf_20 (by decide) (fun c_20 => ?_) (fun c_20 => ?_)
        · skip
          refine lv_iinc (v := ((nI t) + 1)) (lv' := [(4, .int ((nI t) + 1)), (0, .ref (ad h)), (1, .int bits), (2, .int col), (3, .int (smS tf bits col t))]) hx hb dX0_sumOf_36 hl (k := 4) rfl rfl (by decide) rfl (fun ls hl => ?_)
          refine lv_goto (tgt := 5) hx hb dX0_sumOf_39 (by decide) ?_
          exact ih_5 (t + 1) (smS tf bits col t) ((nI t) + 1) (by rw [h7] at c_11; have := lt_of_nlt c_11 (by omega) ht; omega) (by rw [h7] at c_11; have := lt_of_nlt c_11 (by omega) ht; omega) (by first | rw [smS, if_pos c_20] | rw [smS, if_neg c_20]) (by first | rfl | exact nI_0.symm | exact nI_1 _) ls (lv_sub hl [1, 2, 3, 4, 0] rfl)
        · skip
          refine lv_iload_n hx hb dX0_sumOf_23 rfl (lv_at hl 3 rfl) ?_
          refine lv_aload_n hx hb dX0_sumOf_24 rfl (lv_at hl 0 rfl) ?_
          refine q_get (v := .ref (ad (h + 5))) (fs := hallF ad h hv) X hK hP fX0_sumOf_23 h_h m_h rfl dX0_sumOf_25 ?_
          refine lv_iload hx hb dX0_sumOf_28 (lv_at hl 4 rfl) ?_
          refine lv_iload_n hx hb dX0_sumOf_30 rfl (lv_at hl 2 rfl) ?_
          refine q_rdV (As := [.int (nI t), .int col]) (rest := [.int (smS tf bits col t)]) (c_X8_at_ l D cB cI cJ ad n M (h + 5) (h + 6) 84 7 tf (nI t) col h_h_5 h_h_6 m_h_5 m_h_6 (by decide)) X hK hP hS hl.1 rfl gX0_sumOf_X8_at_ yd_X8_at_ ⟨Nat.le_of_ble_eq_true rfl, Nat.le_of_ble_eq_true rfl⟩ h_h_5 m_h_5 (ci := 8) rfl rfl (Nat.le_of_ble_eq_true rfl) ⟨Nat.zero_le _, Nat.zero_le _⟩ dX0_sumOf_31 ?_
          refine lv_iadd hx hb dX0_sumOf_34 ?_
          refine lv_istore_n (lv' := [(3, .int ((smS tf bits col t) + (tat 84 tf ((nI t) * 7 + col)))), (0, .ref (ad h)), (1, .int bits), (2, .int col), (4, .int (nI t))]) hx hb dX0_sumOf_35 rfl hl (by decide) rfl (fun ls hl => ?_)
          refine lv_iinc (v := ((nI t) + 1)) (lv' := [(4, .int ((nI t) + 1)), (3, .int ((smS tf bits col t) + (tat 84 tf ((nI t) * 7 + col)))), (0, .ref (ad h)), (1, .int bits), (2, .int col)]) hx hb dX0_sumOf_36 hl (k := 4) rfl rfl (by decide) rfl (fun ls hl => ?_)
          refine lv_goto (tgt := 5) hx hb dX0_sumOf_39 (by decide) ?_
          exact ih_5 (t + 1) ((smS tf bits col t) + (tat 84 tf ((nI t) * 7 + col))) ((nI t) + 1) (by rw [h7] at c_11; have := lt_of_nlt c_11 (by omega) ht; omega) (by rw [h7] at c_11; have := lt_of_nlt c_11 (by omega) ht; omega) (by first | rw [smS, if_pos c_20] | rw [smS, if_neg c_20]) (by first | rfl | exact nI_0.symm | exact nI_1 _) ls (lv_sub hl [2, 3, 4, 1, 0] rfl)
  exact loop_5 (nt + 1) 0 0 0 (by omega) (by omega) (by first | rfl | exact nI_0.symm | exact nI_1 _) (by first | rfl | exact nI_0.symm | exact nI_1 _) ls (lv_sub hl [2, 3, 4, 1, 0] rfl)
set_option maxRecDepth 20000 in
theorem fX0_ofKind_46 : FL wsX0_ofKind RX0 46 0 7 := ⟨RX0, TX0, 12, rfl, by decide +kernel, by decide, by decide +kernel⟩
set_option maxRecDepth 20000 in
theorem fX0_ofKind_23 : FL wsX0_ofKind RX0 23 0 2 := ⟨RX0, TX0, 12, rfl, by decide +kernel, by decide, by decide +kernel⟩
set_option maxHeartbeats 4000000 in
set_option maxRecDepth 100000 in
theorem c_X0_ofKind (l : Launch) (D : va_G) (cB cI cJ : ClassId) (ad : Nat → Nat) (n : Nat) (M : Nat → va_E) (h nt : Nat) (hv tf : Nat → Int32) (kind : Int32) (h_h : h < n) (h_h_5 : h + 5 < n) (h_h_6 : h + 6 < n) (m_h : M h = .inr (0, hallF ad h hv)) (m_h_5 : M (h + 5) = .inr (8, [.int 7, .ref (ad (h + 6))])) (m_h_6 : M (h + 6) = .inl (cI, 84, .inl tf)) (h7 : hv 7 = nI nt) (hnt : nt ≤ 12) : cR l D cB cI cJ ad n M yX0_ofKind wsX0_ofKind 1 23 [.ref (ad h), .int kind] (okS tf kind nt) := by
  refine q_body (cc := cX0_ofKind) (maxL := 4) (ret := (some .int)) (by decide) rfl (Nat.le_of_ble_eq_true rfl) ?_
  intro p e s m args below meth c ls X hr hlocks hK hP hl
  obtain ⟨hx, hb, hml, hown, hts⟩ := id X
  have hS : va_S (ipA ad n) s.heap s.heap [] := va_S.rf
  have hl : lv_has ls 4 [(0, .ref (ad h)), (1, .int kind)] := hl
  refine lv_iconst (v := 0) hx hb dX0_ofKind_0 (by decide) ?_
  refine lv_istore_n (lv' := [(2, .int 0), (0, .ref (ad h)), (1, .int kind)]) hx hb dX0_ofKind_1 rfl hl (by decide) rfl (fun ls hl => ?_)
  refine lv_iconst (v := 0) hx hb dX0_ofKind_2 (by decide) ?_
  refine lv_istore_n (lv' := [(3, .int 0), (2, .int 0), (0, .ref (ad h)), (1, .int kind)]) hx hb dX0_ofKind_3 rfl hl (by decide) rfl (fun ls hl => ?_)
  have loop_4 : ∀ (fuel : Nat) (t : Nat) (x2 : Int32) (x3 : Int32), nt - t < fuel → (t ≤ nt) → x2 = okS tf kind t → x3 = nI t → ∀ (ls : Array Slot), lv_has ls 4 [(0, .ref (ad h)), (1, .int kind), (2, .int x2), (3, .int x3)] → W p l e (rmOf 1 23) s m args below meth c s.heap [] 0 0 (MQ below (vp_Si (fun r9 => r9 = okS tf kind nt)) args s 0 0 (fun _ => False)) (F0 m 4 ls []) := by
    intro fuel
    induction fuel with
    | zero =>
      intro t x2 x3 hz
      exact absurd hz (Nat.not_lt_zero _)
    | succ fuel ih_4 =>
      intro t x2 x3 hz_4 ht e2 e3 ls hl
      subst e2
      subst e3
      skip
      refine lv_iload_n hx hb dX0_ofKind_4 rfl (lv_at hl 3 rfl) ?_
      refine lv_aload_n hx hb dX0_ofKind_5 rfl (lv_at hl 0 rfl) ?_
      refine q_get (v := .int (hv 7)) (fs := hallF ad h hv) X hK hP fX0_ofKind_46 h_h m_h rfl dX0_ofKind_6 ?_
      refine lv_icmp_ge (tgt := 37) hx hb dX0_ofKind_9 (by decide) (fun c_9 => ?_) (fun c_9 => ?_)
      · skip
        refine lv_iload_n hx hb dX0_ofKind_37 rfl (lv_at hl 2 rfl) ?_
        exact q_iret hb hx hr hlocks (by rw [h7] at c_9; rw [eq_of_le c_9 (by omega) ht]) dX0_ofKind_38
      · skip
        refine lv_aload_n hx hb dX0_ofKind_12 rfl (lv_at hl 0 rfl) ?_
        refine q_get (v := .ref (ad (h + 5))) (fs := hallF ad h hv) X hK hP fX0_ofKind_23 h_h m_h rfl dX0_ofKind_13 ?_
        refine lv_iload_n hx hb dX0_ofKind_16 rfl (lv_at hl 3 rfl) ?_
        refine lv_iconst (v := 0) hx hb dX0_ofKind_17 (by decide) ?_
        refine q_rdV (As := [.int (nI t), .int 0]) (rest := []) (c_X8_at_ l D cB cI cJ ad n M (h + 5) (h + 6) 84 7 tf (nI t) 0 h_h_5 h_h_6 m_h_5 m_h_6 (by decide)) X hK hP hS hl.1 rfl gX0_ofKind_X8_at_ yd_X8_at_ ⟨Nat.le_of_ble_eq_true rfl, Nat.le_of_ble_eq_true rfl⟩ h_h_5 m_h_5 (ci := 8) rfl rfl (Nat.le_of_ble_eq_true rfl) ⟨Nat.zero_le _, Nat.zero_le _⟩ dX0_ofKind_18 ?_
        refine lv_iload_n hx hb dX0_ofKind_21 rfl (lv_at hl 1 rfl) ?_
        refine lv_icmp_ne (tgt := 31) hx hb dX0_ofKind_22 (by decide) (fun c_22 => ?_) (fun c_22 => ?_)
        · skip
          refine lv_iinc (v := ((nI t) + 1)) (lv' := [(3, .int ((nI t) + 1)), (0, .ref (ad h)), (1, .int kind), (2, .int (okS tf kind t))]) hx hb dX0_ofKind_31 hl (k := 3) rfl rfl (by decide) rfl (fun ls hl => ?_)
          refine lv_goto (tgt := 4) hx hb dX0_ofKind_34 (by decide) ?_
          exact ih_4 (t + 1) (okS tf kind t) ((nI t) + 1) (by rw [h7] at c_9; have := lt_of_nlt c_9 (by omega) ht; omega) (by rw [h7] at c_9; have := lt_of_nlt c_9 (by omega) ht; omega) (by first | rw [okS, if_pos c_22] | rw [okS, if_neg c_22]) (by first | rfl | exact nI_0.symm | exact nI_1 _) ls (lv_sub hl [1, 2, 3, 0] rfl)
        · skip
          refine lv_iload_n hx hb dX0_ofKind_25 rfl (lv_at hl 2 rfl) ?_
          refine lv_iconst (v := 1) hx hb dX0_ofKind_26 (by decide) ?_
          refine lv_iload_n hx hb dX0_ofKind_27 rfl (lv_at hl 3 rfl) ?_
          refine lv_ishl hx hb dX0_ofKind_28 ?_
          refine lv_ior hx hb dX0_ofKind_29 ?_
          refine lv_istore_n (lv' := [(2, .int ((okS tf kind t) ||| (1 <<< ((nI t) &&& 31)))), (0, .ref (ad h)), (1, .int kind), (3, .int (nI t))]) hx hb dX0_ofKind_30 rfl hl (by decide) rfl (fun ls hl => ?_)
          refine lv_iinc (v := ((nI t) + 1)) (lv' := [(3, .int ((nI t) + 1)), (2, .int ((okS tf kind t) ||| (1 <<< ((nI t) &&& 31)))), (0, .ref (ad h)), (1, .int kind)]) hx hb dX0_ofKind_31 hl (k := 3) rfl rfl (by decide) rfl (fun ls hl => ?_)
          refine lv_goto (tgt := 4) hx hb dX0_ofKind_34 (by decide) ?_
          exact ih_4 (t + 1) ((okS tf kind t) ||| (1 <<< ((nI t) &&& 31))) ((nI t) + 1) (by rw [h7] at c_9; have := lt_of_nlt c_9 (by omega) ht; omega) (by rw [h7] at c_9; have := lt_of_nlt c_9 (by omega) ht; omega) (by first | rw [okS, if_pos c_22] | rw [okS, if_neg c_22]) (by first | rfl | exact nI_0.symm | exact nI_1 _) ls (lv_sub hl [2, 3, 1, 0] rfl)
  exact loop_4 (nt + 1) 0 0 0 (by omega) (by omega) (by first | rfl | exact nI_0.symm | exact nI_1 _) (by first | rfl | exact nI_0.symm | exact nI_1 _) ls (lv_sub hl [2, 3, 1, 0] rfl)
theorem yd_X0_ofKind : YD yX0_ofKind 1 := ⟨by decide +kernel, by decide +kernel, by decide +kernel⟩
def hkS (nt : Nat) (tf : Nat → Int32) (bits : Int32) (kind : Int32) : Int32 := if (bits &&& (okS tf kind nt)) = 0 then 0 else 1
set_option maxHeartbeats 4000000 in
set_option maxRecDepth 100000 in
theorem c_X0_hasKind (l : Launch) (D : va_G) (cB cI cJ : ClassId) (ad : Nat → Nat) (n : Nat) (M : Nat → va_E) (h nt : Nat) (hv tf : Nat → Int32) (bits kind : Int32) (h_h : h < n) (h_h_5 : h + 5 < n) (h_h_6 : h + 6 < n) (m_h : M h = .inr (0, hallF ad h hv)) (m_h_5 : M (h + 5) = .inr (8, [.int 7, .ref (ad (h + 6))])) (m_h_6 : M (h + 6) = .inl (cI, 84, .inl tf)) (h7 : hv 7 = nI nt) (hnt : nt ≤ 12) : cR l D cB cI cJ ad n M yX0_hasKind wsX0_hasKind 2 46 [.ref (ad h), .int bits, .int kind] (hkS nt tf bits kind) := by
  refine q_body (cc := cX0_hasKind) (maxL := 3) (ret := (some .boolean)) (by decide) rfl (Nat.le_of_ble_eq_true rfl) ?_
  intro p e s m args below meth c ls X hr hlocks hK hP hl
  obtain ⟨hx, hb, hml, hown, hts⟩ := id X
  have hS : va_S (ipA ad n) s.heap s.heap [] := va_S.rf
  have hl : lv_has ls 3 [(0, .ref (ad h)), (1, .int bits), (2, .int kind)] := hl
  refine lv_iload_n hx hb dX0_hasKind_0 rfl (lv_at hl 1 rfl) ?_
  refine lv_aload_n hx hb dX0_hasKind_1 rfl (lv_at hl 0 rfl) ?_
  refine lv_iload_n hx hb dX0_hasKind_2 rfl (lv_at hl 2 rfl) ?_
  refine q_rdV (As := [.int kind]) (rest := [.int bits]) (c_X0_ofKind l D cB cI cJ ad n M h nt hv tf kind h_h h_h_5 h_h_6 m_h m_h_5 m_h_6 h7 hnt) X hK hP hS hl.1 rfl gX0_hasKind_X0_ofKind yd_X0_ofKind ⟨Nat.le_of_ble_eq_true rfl, Nat.le_of_ble_eq_true rfl⟩ h_h m_h (ci := 0) rfl rfl (Nat.le_of_ble_eq_true rfl) ⟨Nat.zero_le _, Nat.zero_le _⟩ dX0_hasKind_3 ?_
  refine lv_iand hx hb dX0_hasKind_6 ?_
  refine lv_if_eq (tgt := 14) hx hb dX0_hasKind_7 (by decide) (fun c_7 => ?_) (fun c_7 => ?_)
  · skip
    refine lv_iconst (v := 0) hx hb dX0_hasKind_14 (by decide) ?_
    exact q_zret X hr hlocks (rfl) (by rw [hkS, if_pos c_7]) dX0_hasKind_15
  · skip
    refine lv_iconst (v := 1) hx hb dX0_hasKind_10 (by decide) ?_
    refine lv_goto (tgt := 15) hx hb dX0_hasKind_11 (by decide) ?_
    exact q_zret X hr hlocks (rfl) (by rw [hkS, if_neg c_7]) dX0_hasKind_15
theorem yd_X0_sumOf : YD yX0_sumOf 2 := ⟨by decide +kernel, by decide +kernel, by decide +kernel⟩
set_option maxRecDepth 20000 in
theorem fX0_goesWith_20 : FL wsX0_goesWith RX0 20 0 1 := ⟨RX0, TX0, 12, rfl, by decide +kernel, by decide, by decide +kernel⟩
def gwS (nt : Nat) (cf : Nat → Int32) (tf : Nat → Int32) (x : Int32) (bits : Int32) : Int32 := if (tat 25 cf (x * 5 + 1)) < (smS tf bits 1 nt) then 0 else if (tat 25 cf (x * 5 + 2)) < (smS tf bits 3 nt) then 0 else if (tat 25 cf (x * 5 + 4)) = 0 then 1 else if (bits &&& (okS tf 2 nt)) = 0 then 1 else 0
set_option maxHeartbeats 4000000 in
set_option maxRecDepth 100000 in
theorem c_X0_goesWith (l : Launch) (D : va_G) (cB cI cJ : ClassId) (ad : Nat → Nat) (n : Nat) (M : Nat → va_E) (h nt : Nat) (hv cf tf : Nat → Int32) (x bits : Int32) (h_h : h < n) (h_h_3 : h + 3 < n) (h_h_4 : h + 4 < n) (h_h_5 : h + 5 < n) (h_h_6 : h + 6 < n) (m_h : M h = .inr (0, hallF ad h hv)) (m_h_3 : M (h + 3) = .inr (8, [.int 5, .ref (ad (h + 4))])) (m_h_4 : M (h + 4) = .inl (cI, 25, .inl cf)) (m_h_5 : M (h + 5) = .inr (8, [.int 7, .ref (ad (h + 6))])) (m_h_6 : M (h + 6) = .inl (cI, 84, .inl tf)) (h7 : hv 7 = nI nt) (hnt : nt ≤ 12) : cR l D cB cI cJ ad n M yX0_goesWith wsX0_goesWith 2 47 [.ref (ad h), .int x, .int bits] (gwS nt cf tf x bits) := by
  refine q_body (cc := cX0_goesWith) (maxL := 3) (ret := (some .boolean)) (by decide) rfl (Nat.le_of_ble_eq_true rfl) ?_
  intro p e s m args below meth c ls X hr hlocks hK hP hl
  obtain ⟨hx, hb, hml, hown, hts⟩ := id X
  have hS : va_S (ipA ad n) s.heap s.heap [] := va_S.rf
  have hl : lv_has ls 3 [(0, .ref (ad h)), (1, .int x), (2, .int bits)] := hl
  refine lv_aload_n hx hb dX0_goesWith_0 rfl (lv_at hl 0 rfl) ?_
  refine lv_iload_n hx hb dX0_goesWith_1 rfl (lv_at hl 2 rfl) ?_
  refine lv_iconst (v := 1) hx hb dX0_goesWith_2 (by decide) ?_
  refine q_rdV (As := [.int bits, .int 1]) (rest := []) (c_X0_sumOf l D cB cI cJ ad n M h nt hv tf bits 1 h_h h_h_5 h_h_6 m_h m_h_5 m_h_6 h7 hnt) X hK hP hS hl.1 rfl gX0_goesWith_X0_sumOf yd_X0_sumOf ⟨Nat.le_of_ble_eq_true rfl, Nat.le_of_ble_eq_true rfl⟩ h_h m_h (ci := 0) rfl rfl (Nat.le_of_ble_eq_true rfl) ⟨Nat.zero_le _, Nat.zero_le _⟩ dX0_goesWith_3 ?_
  refine lv_aload_n hx hb dX0_goesWith_6 rfl (lv_at hl 0 rfl) ?_
  refine q_get (v := .ref (ad (h + 3))) (fs := hallF ad h hv) X hK hP fX0_goesWith_20 h_h m_h rfl dX0_goesWith_7 ?_
  refine lv_iload_n hx hb dX0_goesWith_10 rfl (lv_at hl 1 rfl) ?_
  refine lv_iconst (v := 1) hx hb dX0_goesWith_11 (by decide) ?_
  refine q_rdV (As := [.int x, .int 1]) (rest := [.int (smS tf bits 1 nt)]) (c_X8_at_ l D cB cI cJ ad n M (h + 3) (h + 4) 25 5 cf x 1 h_h_3 h_h_4 m_h_3 m_h_4 (by decide)) X hK hP hS hl.1 rfl gX0_goesWith_X8_at_ yd_X8_at_ ⟨Nat.le_of_ble_eq_true rfl, Nat.le_of_ble_eq_true rfl⟩ h_h_3 m_h_3 (ci := 8) rfl rfl (Nat.le_of_ble_eq_true rfl) ⟨Nat.zero_le _, Nat.zero_le _⟩ dX0_goesWith_12 ?_
  refine lv_icmp_gt (tgt := 62) hx hb dX0_goesWith_15 (by decide) (fun c_15 => ?_) (fun c_15 => ?_)
  · skip
    refine lv_iconst (v := 0) hx hb dX0_goesWith_62 (by decide) ?_
    exact q_zret X hr hlocks (rfl) (by rw [gwS, if_pos c_15]) dX0_goesWith_63
  · skip
    refine lv_aload_n hx hb dX0_goesWith_18 rfl (lv_at hl 0 rfl) ?_
    refine lv_iload_n hx hb dX0_goesWith_19 rfl (lv_at hl 2 rfl) ?_
    refine lv_iconst (v := 3) hx hb dX0_goesWith_20 (by decide) ?_
    refine q_rdV (As := [.int bits, .int 3]) (rest := []) (c_X0_sumOf l D cB cI cJ ad n M h nt hv tf bits 3 h_h h_h_5 h_h_6 m_h m_h_5 m_h_6 h7 hnt) X hK hP hS hl.1 rfl gX0_goesWith_X0_sumOf yd_X0_sumOf ⟨Nat.le_of_ble_eq_true rfl, Nat.le_of_ble_eq_true rfl⟩ h_h m_h (ci := 0) rfl rfl (Nat.le_of_ble_eq_true rfl) ⟨Nat.zero_le _, Nat.zero_le _⟩ dX0_goesWith_21 ?_
    refine lv_aload_n hx hb dX0_goesWith_24 rfl (lv_at hl 0 rfl) ?_
    refine q_get (v := .ref (ad (h + 3))) (fs := hallF ad h hv) X hK hP fX0_goesWith_20 h_h m_h rfl dX0_goesWith_25 ?_
    refine lv_iload_n hx hb dX0_goesWith_28 rfl (lv_at hl 1 rfl) ?_
    refine lv_iconst (v := 2) hx hb dX0_goesWith_29 (by decide) ?_
    refine q_rdV (As := [.int x, .int 2]) (rest := [.int (smS tf bits 3 nt)]) (c_X8_at_ l D cB cI cJ ad n M (h + 3) (h + 4) 25 5 cf x 2 h_h_3 h_h_4 m_h_3 m_h_4 (by decide)) X hK hP hS hl.1 rfl gX0_goesWith_X8_at_ yd_X8_at_ ⟨Nat.le_of_ble_eq_true rfl, Nat.le_of_ble_eq_true rfl⟩ h_h_3 m_h_3 (ci := 8) rfl rfl (Nat.le_of_ble_eq_true rfl) ⟨Nat.zero_le _, Nat.zero_le _⟩ dX0_goesWith_30 ?_
    refine lv_icmp_gt (tgt := 62) hx hb dX0_goesWith_33 (by decide) (fun c_33 => ?_) (fun c_33 => ?_)
    · skip
      refine lv_iconst (v := 0) hx hb dX0_goesWith_62 (by decide) ?_
      exact q_zret X hr hlocks (rfl) (by rw [gwS, if_neg c_15, if_pos c_33]) dX0_goesWith_63
    · skip
      refine lv_aload_n hx hb dX0_goesWith_36 rfl (lv_at hl 0 rfl) ?_
      refine q_get (v := .ref (ad (h + 3))) (fs := hallF ad h hv) X hK hP fX0_goesWith_20 h_h m_h rfl dX0_goesWith_37 ?_
      refine lv_iload_n hx hb dX0_goesWith_40 rfl (lv_at hl 1 rfl) ?_
      refine lv_iconst (v := 4) hx hb dX0_goesWith_41 (by decide) ?_
      refine q_rdV (As := [.int x, .int 4]) (rest := []) (c_X8_at_ l D cB cI cJ ad n M (h + 3) (h + 4) 25 5 cf x 4 h_h_3 h_h_4 m_h_3 m_h_4 (by decide)) X hK hP hS hl.1 rfl gX0_goesWith_X8_at_ yd_X8_at_ ⟨Nat.le_of_ble_eq_true rfl, Nat.le_of_ble_eq_true rfl⟩ h_h_3 m_h_3 (ci := 8) rfl rfl (Nat.le_of_ble_eq_true rfl) ⟨Nat.zero_le _, Nat.zero_le _⟩ dX0_goesWith_42 ?_
      refine lv_if_eq (tgt := 58) hx hb dX0_goesWith_45 (by decide) (fun c_45 => ?_) (fun c_45 => ?_)
      · skip
        refine lv_iconst (v := 1) hx hb dX0_goesWith_58 (by decide) ?_
        refine lv_goto (tgt := 63) hx hb dX0_goesWith_59 (by decide) ?_
        exact q_zret X hr hlocks (rfl) (by rw [gwS, if_neg c_15, if_neg c_33, if_pos c_45]) dX0_goesWith_63
      · skip
        refine lv_iload_n hx hb dX0_goesWith_48 rfl (lv_at hl 2 rfl) ?_
        refine lv_aload_n hx hb dX0_goesWith_49 rfl (lv_at hl 0 rfl) ?_
        refine lv_iconst (v := 2) hx hb dX0_goesWith_50 (by decide) ?_
        refine q_rdV (As := [.int 2]) (rest := [.int bits]) (c_X0_ofKind l D cB cI cJ ad n M h nt hv tf 2 h_h h_h_5 h_h_6 m_h m_h_5 m_h_6 h7 hnt) X hK hP hS hl.1 rfl gX0_goesWith_X0_ofKind yd_X0_ofKind ⟨Nat.le_of_ble_eq_true rfl, Nat.le_of_ble_eq_true rfl⟩ h_h m_h (ci := 0) rfl rfl (Nat.le_of_ble_eq_true rfl) ⟨Nat.zero_le _, Nat.zero_le _⟩ dX0_goesWith_51 ?_
        refine lv_iand hx hb dX0_goesWith_54 ?_
        refine lv_if_ne (tgt := 62) hx hb dX0_goesWith_55 (by decide) (fun c_55 => ?_) (fun c_55 => ?_)
        · skip
          refine lv_iconst (v := 0) hx hb dX0_goesWith_62 (by decide) ?_
          exact q_zret X hr hlocks (rfl) (by rw [gwS, if_neg c_15, if_neg c_33, if_neg c_45, if_neg c_55]) dX0_goesWith_63
        · skip
          refine lv_iconst (v := 1) hx hb dX0_goesWith_58 (by decide) ?_
          refine lv_goto (tgt := 63) hx hb dX0_goesWith_59 (by decide) ?_
          exact q_zret X hr hlocks (rfl) (by rw [gwS, if_neg c_15, if_neg c_33, if_neg c_45, if_pos c_55]) dX0_goesWith_63
set_option maxRecDepth 20000 in
theorem fX0_clear_32 : FL wsX0_clear RX0 32 0 4 := ⟨RX0, TX0, 12, rfl, by decide +kernel, by decide, by decide +kernel⟩
theorem yd_X5_clear : YD yX5_clear 0 := ⟨by decide +kernel, by decide +kernel, by decide +kernel⟩
set_option maxRecDepth 20000 in
theorem fX0_clear_39 : FL wsX0_clear RX0 39 0 5 := ⟨RX0, TX0, 12, rfl, by decide +kernel, by decide, by decide +kernel⟩
theorem fw_0_5 : FW 0 5 .int := ⟨RX0, TX0, 12, tyX0, rfl, tyX0_ok, nmX0, by decide, rfl, by decide +kernel⟩
set_option maxRecDepth 20000 in
theorem fX0_clear_43 : FL wsX0_clear RX0 43 0 6 := ⟨RX0, TX0, 12, rfl, by decide +kernel, by decide, by decide +kernel⟩
theorem fw_0_6 : FW 0 6 .int := ⟨RX0, TX0, 12, tyX0, rfl, tyX0_ok, nmX0, by decide, rfl, by decide +kernel⟩
set_option maxRecDepth 20000 in
theorem fX0_clear_46 : FL wsX0_clear RX0 46 0 7 := ⟨RX0, TX0, 12, rfl, by decide +kernel, by decide, by decide +kernel⟩
theorem fw_0_7 : FW 0 7 .int := ⟨RX0, TX0, 12, tyX0, rfl, tyX0_ok, nmX0, by decide, rfl, by decide +kernel⟩
set_option maxRecDepth 20000 in
theorem fX0_clear_49 : FL wsX0_clear RX0 49 0 8 := ⟨RX0, TX0, 12, rfl, by decide +kernel, by decide, by decide +kernel⟩
theorem fw_0_8 : FW 0 8 .int := ⟨RX0, TX0, 12, tyX0, rfl, tyX0_ok, nmX0, by decide, rfl, by decide +kernel⟩
set_option maxRecDepth 20000 in
theorem fX0_clear_52 : FL wsX0_clear RX0 52 0 9 := ⟨RX0, TX0, 12, rfl, by decide +kernel, by decide, by decide +kernel⟩
theorem fw_0_9 : FW 0 9 .boolean := ⟨RX0, TX0, 12, tyX0, rfl, tyX0_ok, nmX0, by decide, rfl, by decide +kernel⟩
set_option maxRecDepth 20000 in
theorem fX0_clear_56 : FL wsX0_clear RX0 56 0 10 := ⟨RX0, TX0, 12, rfl, by decide +kernel, by decide, by decide +kernel⟩
theorem fw_0_10 : FW 0 10 .int := ⟨RX0, TX0, 12, tyX0, rfl, tyX0_ok, nmX0, by decide, rfl, by decide +kernel⟩
set_option maxRecDepth 20000 in
theorem fX0_clear_59 : FL wsX0_clear RX0 59 0 11 := ⟨RX0, TX0, 12, rfl, by decide +kernel, by decide, by decide +kernel⟩
theorem fw_0_11 : FW 0 11 .int := ⟨RX0, TX0, 12, tyX0, rfl, tyX0_ok, nmX0, by decide, rfl, by decide +kernel⟩
set_option maxHeartbeats 4000000 in
set_option maxRecDepth 100000 in
theorem c_X0_clear (l : Launch) (D : va_G) (cB cI cJ : ClassId) (ad : Nat → Nat) (n : Nat) (M : Nat → va_E) (hI : ipI ad n) (h : Nat) (hv : Nat → Int32) (cl td hg : Int32) (h_h : h < n) (h_h_9 : h + 9 < n) (m_h : M h = .inr (0, hallF ad h hv)) (m_h_9 : M (h + 9) = .inr (5, ruleF ad (h + 9) cl td hg))  : cWv l D cB cI cJ ad n M yX0_clear wsX0_clear 1 20 [.ref (ad h)] (fun M' => M' (h + 9) = .inr (5, ruleF ad (h + 9) 0 0 hg) ∧ M' h = .inr (0, hallF ad h (upd (upd (upd (upd (upd (upd (upd hv 5 0) 6 0) 7 0) 8 0) 9 0) 10 0) 11 0)) ∧ ∀ q : Nat, q ≠ h + 9 → q ≠ h → M' q = M q) := by
  refine q_body (cc := cX0_clear) (maxL := 1) (ret := none) (by decide) rfl (Nat.le_of_ble_eq_true rfl) ?_
  intro p e s m args below meth c ls X hr hlocks hK hP hl
  obtain ⟨hx, hb, hml, hown, hts⟩ := id X
  have hS : va_S (ipA ad n) s.heap s.heap [] := va_S.rf
  have hl : lv_has ls 1 [(0, .ref (ad h))] := hl
  refine lv_aload_n hx hb dX0_clear_0 rfl (lv_at hl 0 rfl) ?_
  refine q_get (v := .ref (ad (h + 9))) (fs := hallF ad h hv) X hK hP fX0_clear_32 h_h m_h rfl dX0_clear_1 ?_
  refine q_wrVv (As := []) (rest := []) (c_X5_clear l D cB cI cJ ad n M hI (h + 9) cl td hg h_h_9 m_h_9 ) X hK hP hS hl.1 rfl gX0_clear_X5_clear yd_X5_clear ⟨Nat.le_of_ble_eq_true rfl, Nat.le_of_ble_eq_true rfl⟩ h_h_9 m_h_9 (ci := 5) rfl rfl (Nat.le_of_ble_eq_true rfl) ⟨Nat.zero_le _, Nat.zero_le _⟩ dX0_clear_4 (fun M2 H locs hp1 hP hS => ?_)
  obtain ⟨g4, fr5⟩ := hp1
  refine lv_aload_n hx hb dX0_clear_7 rfl (lv_at hl 0 rfl) ?_
  refine lv_iconst (v := 0) hx hb dX0_clear_8 (by decide) ?_
  refine q_put (fs := hallF ad h hv) (fs' := hallF ad h (upd hv 5 0)) X hK hI hP hS fX0_clear_39 fw_0_5 h_h ((fr5 h (by omega)).trans m_h) rfl rfl (Nat.le_of_ble_eq_true rfl) rfl dX0_clear_9 (fun H locs hP hS => ?_)
  refine lv_aload_n hx hb dX0_clear_12 rfl (lv_at hl 0 rfl) ?_
  refine lv_iconst (v := 0) hx hb dX0_clear_13 (by decide) ?_
  refine q_put (fs := hallF ad h (upd hv 5 0)) (fs' := hallF ad h (upd (upd hv 5 0) 6 0)) X hK hI hP hS fX0_clear_43 fw_0_6 h_h (va_up_self M2 h (.inr (0, hallF ad h (upd hv 5 0)))) rfl rfl (Nat.le_of_ble_eq_true rfl) rfl dX0_clear_14 (fun H locs hP hS => ?_)
  refine lv_aload_n hx hb dX0_clear_17 rfl (lv_at hl 0 rfl) ?_
  refine lv_iconst (v := 0) hx hb dX0_clear_18 (by decide) ?_
  refine q_put (fs := hallF ad h (upd (upd hv 5 0) 6 0)) (fs' := hallF ad h (upd (upd (upd hv 5 0) 6 0) 7 0)) X hK hI hP hS fX0_clear_46 fw_0_7 h_h (va_up_self (va_up M2 h (.inr (0, hallF ad h (upd hv 5 0)))) h (.inr (0, hallF ad h (upd (upd hv 5 0) 6 0)))) rfl rfl (Nat.le_of_ble_eq_true rfl) rfl dX0_clear_19 (fun H locs hP hS => ?_)
  refine lv_aload_n hx hb dX0_clear_22 rfl (lv_at hl 0 rfl) ?_
  refine lv_iconst (v := 0) hx hb dX0_clear_23 (by decide) ?_
  refine q_put (fs := hallF ad h (upd (upd (upd hv 5 0) 6 0) 7 0)) (fs' := hallF ad h (upd (upd (upd (upd hv 5 0) 6 0) 7 0) 8 0)) X hK hI hP hS fX0_clear_49 fw_0_8 h_h (va_up_self (va_up (va_up M2 h (.inr (0, hallF ad h (upd hv 5 0)))) h (.inr (0, hallF ad h (upd (upd hv 5 0) 6 0)))) h (.inr (0, hallF ad h (upd (upd (upd hv 5 0) 6 0) 7 0)))) rfl rfl (Nat.le_of_ble_eq_true rfl) rfl dX0_clear_24 (fun H locs hP hS => ?_)
  refine lv_aload_n hx hb dX0_clear_27 rfl (lv_at hl 0 rfl) ?_
  refine lv_iconst (v := 0) hx hb dX0_clear_28 (by decide) ?_
  refine q_put (fs := hallF ad h (upd (upd (upd (upd hv 5 0) 6 0) 7 0) 8 0)) (fs' := hallF ad h (upd (upd (upd (upd (upd hv 5 0) 6 0) 7 0) 8 0) 9 0)) X hK hI hP hS fX0_clear_52 fw_0_9 h_h (va_up_self (va_up (va_up (va_up M2 h (.inr (0, hallF ad h (upd hv 5 0)))) h (.inr (0, hallF ad h (upd (upd hv 5 0) 6 0)))) h (.inr (0, hallF ad h (upd (upd (upd hv 5 0) 6 0) 7 0)))) h (.inr (0, hallF ad h (upd (upd (upd (upd hv 5 0) 6 0) 7 0) 8 0)))) rfl rfl (Nat.le_of_ble_eq_true rfl) rfl dX0_clear_29 (fun H locs hP hS => ?_)
  refine lv_aload_n hx hb dX0_clear_32 rfl (lv_at hl 0 rfl) ?_
  refine lv_iconst (v := 0) hx hb dX0_clear_33 (by decide) ?_
  refine q_put (fs := hallF ad h (upd (upd (upd (upd (upd hv 5 0) 6 0) 7 0) 8 0) 9 0)) (fs' := hallF ad h (upd (upd (upd (upd (upd (upd hv 5 0) 6 0) 7 0) 8 0) 9 0) 10 0)) X hK hI hP hS fX0_clear_56 fw_0_10 h_h (va_up_self (va_up (va_up (va_up (va_up M2 h (.inr (0, hallF ad h (upd hv 5 0)))) h (.inr (0, hallF ad h (upd (upd hv 5 0) 6 0)))) h (.inr (0, hallF ad h (upd (upd (upd hv 5 0) 6 0) 7 0)))) h (.inr (0, hallF ad h (upd (upd (upd (upd hv 5 0) 6 0) 7 0) 8 0)))) h (.inr (0, hallF ad h (upd (upd (upd (upd (upd hv 5 0) 6 0) 7 0) 8 0) 9 0)))) rfl rfl (Nat.le_of_ble_eq_true rfl) rfl dX0_clear_34 (fun H locs hP hS => ?_)
  refine lv_aload_n hx hb dX0_clear_37 rfl (lv_at hl 0 rfl) ?_
  refine lv_iconst (v := 0) hx hb dX0_clear_38 (by decide) ?_
  refine q_put (fs := hallF ad h (upd (upd (upd (upd (upd (upd hv 5 0) 6 0) 7 0) 8 0) 9 0) 10 0)) (fs' := hallF ad h (upd (upd (upd (upd (upd (upd (upd hv 5 0) 6 0) 7 0) 8 0) 9 0) 10 0) 11 0)) X hK hI hP hS fX0_clear_59 fw_0_11 h_h (va_up_self (va_up (va_up (va_up (va_up (va_up M2 h (.inr (0, hallF ad h (upd hv 5 0)))) h (.inr (0, hallF ad h (upd (upd hv 5 0) 6 0)))) h (.inr (0, hallF ad h (upd (upd (upd hv 5 0) 6 0) 7 0)))) h (.inr (0, hallF ad h (upd (upd (upd (upd hv 5 0) 6 0) 7 0) 8 0)))) h (.inr (0, hallF ad h (upd (upd (upd (upd (upd hv 5 0) 6 0) 7 0) 8 0) 9 0)))) h (.inr (0, hallF ad h (upd (upd (upd (upd (upd (upd hv 5 0) 6 0) 7 0) 8 0) 9 0) 10 0)))) rfl rfl (Nat.le_of_ble_eq_true rfl) rfl dX0_clear_39 (fun H locs hP hS => ?_)
  exact q_wvret X hr hlocks hP hS ⟨((va_up_ne (va_up (va_up (va_up (va_up (va_up (va_up M2 h (.inr (0, hallF ad h (upd hv 5 0)))) h (.inr (0, hallF ad h (upd (upd hv 5 0) 6 0)))) h (.inr (0, hallF ad h (upd (upd (upd hv 5 0) 6 0) 7 0)))) h (.inr (0, hallF ad h (upd (upd (upd (upd hv 5 0) 6 0) 7 0) 8 0)))) h (.inr (0, hallF ad h (upd (upd (upd (upd (upd hv 5 0) 6 0) 7 0) 8 0) 9 0)))) h (.inr (0, hallF ad h (upd (upd (upd (upd (upd (upd hv 5 0) 6 0) 7 0) 8 0) 9 0) 10 0)))) (.inr (0, hallF ad h (upd (upd (upd (upd (upd (upd (upd hv 5 0) 6 0) 7 0) 8 0) 9 0) 10 0) 11 0))) (show h + 9 ≠ h by omega)).trans ((va_up_ne (va_up (va_up (va_up (va_up (va_up M2 h (.inr (0, hallF ad h (upd hv 5 0)))) h (.inr (0, hallF ad h (upd (upd hv 5 0) 6 0)))) h (.inr (0, hallF ad h (upd (upd (upd hv 5 0) 6 0) 7 0)))) h (.inr (0, hallF ad h (upd (upd (upd (upd hv 5 0) 6 0) 7 0) 8 0)))) h (.inr (0, hallF ad h (upd (upd (upd (upd (upd hv 5 0) 6 0) 7 0) 8 0) 9 0)))) (.inr (0, hallF ad h (upd (upd (upd (upd (upd (upd hv 5 0) 6 0) 7 0) 8 0) 9 0) 10 0))) (show h + 9 ≠ h by omega)).trans ((va_up_ne (va_up (va_up (va_up (va_up M2 h (.inr (0, hallF ad h (upd hv 5 0)))) h (.inr (0, hallF ad h (upd (upd hv 5 0) 6 0)))) h (.inr (0, hallF ad h (upd (upd (upd hv 5 0) 6 0) 7 0)))) h (.inr (0, hallF ad h (upd (upd (upd (upd hv 5 0) 6 0) 7 0) 8 0)))) (.inr (0, hallF ad h (upd (upd (upd (upd (upd hv 5 0) 6 0) 7 0) 8 0) 9 0))) (show h + 9 ≠ h by omega)).trans ((va_up_ne (va_up (va_up (va_up M2 h (.inr (0, hallF ad h (upd hv 5 0)))) h (.inr (0, hallF ad h (upd (upd hv 5 0) 6 0)))) h (.inr (0, hallF ad h (upd (upd (upd hv 5 0) 6 0) 7 0)))) (.inr (0, hallF ad h (upd (upd (upd (upd hv 5 0) 6 0) 7 0) 8 0))) (show h + 9 ≠ h by omega)).trans ((va_up_ne (va_up (va_up M2 h (.inr (0, hallF ad h (upd hv 5 0)))) h (.inr (0, hallF ad h (upd (upd hv 5 0) 6 0)))) (.inr (0, hallF ad h (upd (upd (upd hv 5 0) 6 0) 7 0))) (show h + 9 ≠ h by omega)).trans ((va_up_ne (va_up M2 h (.inr (0, hallF ad h (upd hv 5 0)))) (.inr (0, hallF ad h (upd (upd hv 5 0) 6 0))) (show h + 9 ≠ h by omega)).trans ((va_up_ne M2 (.inr (0, hallF ad h (upd hv 5 0))) (show h + 9 ≠ h by omega)).trans g4))))))), (va_up_self (va_up (va_up (va_up (va_up (va_up (va_up M2 h (.inr (0, hallF ad h (upd hv 5 0)))) h (.inr (0, hallF ad h (upd (upd hv 5 0) 6 0)))) h (.inr (0, hallF ad h (upd (upd (upd hv 5 0) 6 0) 7 0)))) h (.inr (0, hallF ad h (upd (upd (upd (upd hv 5 0) 6 0) 7 0) 8 0)))) h (.inr (0, hallF ad h (upd (upd (upd (upd (upd hv 5 0) 6 0) 7 0) 8 0) 9 0)))) h (.inr (0, hallF ad h (upd (upd (upd (upd (upd (upd hv 5 0) 6 0) 7 0) 8 0) 9 0) 10 0)))) h (.inr (0, hallF ad h (upd (upd (upd (upd (upd (upd (upd hv 5 0) 6 0) 7 0) 8 0) 9 0) 10 0) 11 0)))), (fun q n0 n1 => ((va_up_ne _ _ n1).trans ((va_up_ne _ _ n1).trans ((va_up_ne _ _ n1).trans ((va_up_ne _ _ n1).trans ((va_up_ne _ _ n1).trans ((va_up_ne _ _ n1).trans ((va_up_ne _ _ n1).trans (fr5 q n0)))))))))⟩ dX0_clear_42
