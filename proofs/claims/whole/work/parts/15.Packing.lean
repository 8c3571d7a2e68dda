/-! PoundsOver$Packing -/
set_option maxRecDepth 20000 in
theorem fX2_costOf_66 : FL wsX2_costOf RX2 66 7 2 := ⟨RX7, TX7, 3, rfl, by decide +kernel, by decide, by decide +kernel⟩
set_option maxRecDepth 20000 in
theorem nX2_costOf_37 : ∀ w ∈ u_ws RX7 TX7 3, w ∈ wsX2_costOf := by decide +kernel
set_option maxRecDepth 20000 in
theorem fX2_costOf_47 : FL wsX2_costOf RX2 47 0 6 := ⟨RX0, TX0, 12, rfl, by decide +kernel, by decide, by decide +kernel⟩
set_option maxRecDepth 20000 in
theorem fX2_costOf_69 : FL wsX2_costOf RX2 69 0 1 := ⟨RX0, TX0, 12, rfl, by decide +kernel, by decide, by decide +kernel⟩
def s_X2_costOf_15s (op : Int32) (cf : Nat → Int32) (x : Int32) (t15 : Nat) (x15_3 : Int32) : Int32 := if (((x &&& (op ^^^ (-1))) >>> ((nI t15) &&& 31)) &&& 1) = 0 then x15_3 else (x15_3 + (tat 25 cf ((nI t15) * 5 + 3)))
def s_X2_costOf_15 (op : Int32) (cf : Nat → Int32) (x : Int32) (z0 : Int32) : Nat → Int32
  | 0 => z0
  | t + 1 => s_X2_costOf_15s op cf x t (s_X2_costOf_15 op cf x z0 t)
def s_X2_costOf (nc : Nat) (op : Int32) (cf : Nat → Int32) (x : Int32) : Int32 := (s_X2_costOf_15 op cf x 0 nc)
set_option maxHeartbeats 4000000 in
set_option maxRecDepth 100000 in
theorem c_X2_costOf (l : Launch) (D : va_G) (cB cI cJ : ClassId) (ad : Nat → Nat) (n : Nat) (M : Nat → va_E) (kb g h nc : Nat) (op : Int32) (hv cf : Nat → Int32) (x : Int32) (h_kb : kb < n) (h_g : g < n) (h_h : h < n) (h_h_3 : h + 3 < n) (h_h_4 : h + 4 < n) (m_kb : M kb = .inr (2, packF ad kb)) (m_g : M g = .inr (7, standF ad g h op)) (m_h : M h = .inr (0, hallF ad h hv)) (m_h_3 : M (h + 3) = .inr (8, [.int 5, .ref (ad (h + 4))])) (m_h_4 : M (h + 4) = .inl (cI, 25, .inl cf)) (h6 : hv 6 = nI nc) (hnc : nc ≤ 5) : cR l D cB cI cJ ad n M yX2_costOf wsX2_costOf 1 23 [.ref (ad kb), .ref (ad g), .int x] (s_X2_costOf nc op cf x) := by
  refine q_body (cc := cX2_costOf) (maxL := 6) (ret := (some .int)) (by decide) rfl (Nat.le_of_ble_eq_true rfl) ?_
  intro p e s m args below meth c ls X hr hlocks hK hP hl
  obtain ⟨hx, hb, hml, hown, hts⟩ := id X
  have hS : va_S (ipA ad n) s.heap s.heap [] := va_S.rf
  have hl : lv_has ls 6 [(0, .ref (ad kb)), (1, .ref (ad g)), (2, .int x)] := hl
  refine lv_iconst (v := 0) hx hb dX2_costOf_0 (by decide) ?_
  refine lv_istore_n (lv' := [(3, .int 0), (0, .ref (ad kb)), (1, .ref (ad g)), (2, .int x)]) hx hb dX2_costOf_1 rfl hl (by decide) rfl (fun ls hl => ?_)
  refine lv_iload_n hx hb dX2_costOf_2 rfl (lv_at hl 3 rfl) ?_
  refine lv_aload_n hx hb dX2_costOf_3 rfl (lv_at hl 2 rfl) ?_
  refine q_get (v := .int op) (fs := standF ad g h op) X hK hP fX2_costOf_66 h_g m_g rfl dX2_costOf_4 ?_
  refine lv_iconst (v := (-1)) hx hb dX2_costOf_7 (by decide) ?_
  refine lv_ixor hx hb dX2_costOf_8 ?_
  refine lv_iand hx hb dX2_costOf_9 ?_
  refine lv_istore (lv' := [(4, .int (x &&& (op ^^^ (-1)))), (3, .int 0), (0, .ref (ad kb)), (1, .ref (ad g)), (2, .int x)]) hx hb dX2_costOf_10 hl (by decide) rfl (fun ls hl => ?_)
  refine lv_iconst (v := 0) hx hb dX2_costOf_12 (by decide) ?_
  refine lv_istore (lv' := [(5, .int 0), (4, .int (x &&& (op ^^^ (-1)))), (3, .int 0), (0, .ref (ad kb)), (1, .ref (ad g)), (2, .int x)]) hx hb dX2_costOf_13 hl (by decide) rfl (fun ls hl => ?_)
  have loop_15 : ∀ (fuel : Nat) (t15 : Nat) (x15_3 : Int32), nc - (t15) < fuel → t15 ≤ nc → x15_3 = (s_X2_costOf_15 op cf x 0 t15) → ∀ (ls : Array Slot), lv_has ls 6 [(5, .int (nI t15)), (3, .int x15_3), (4, .int (x &&& (op ^^^ (-1)))), (0, .ref (ad kb)), (1, .ref (ad g)), (2, .int x)] → W p l e (rmOf 1 23) s m args below meth c s.heap [] 0 0 (MQ below (vp_Si (fun r9 => r9 = s_X2_costOf nc op cf x)) args s 0 0 (fun _ => False)) (F0 m 15 ls []) := by
    intro fuel
    induction fuel with
    | zero =>
      intro t15 x15_3 hz
      exact absurd hz (Nat.not_lt_zero _)
    | succ fuel ih_15 =>
      intro t15 x15_3 hz_15 h_t15 e_x15_3 ls hl
      skip
      refine lv_iload hx hb dX2_costOf_15 (lv_at hl 0 rfl) ?_
      refine lv_aload_n hx hb dX2_costOf_17 rfl (lv_at hl 4 rfl) ?_
      refine q_getN (v := .ref (ad h)) (fs := standF ad g h op) (T := TX7) (k := 0) (C := RX7) (N := 3) (ci := 7) X hK hP hK.1.2.1 rfl nX2_costOf_37 (by decide) h_g m_g rfl dX2_costOf_18 ?_
      refine q_get (v := .int (hv 6)) (fs := hallF ad h hv) X hK hP fX2_costOf_47 h_h m_h rfl dX2_costOf_21 ?_
      refine lv_icmp_ge (tgt := 59) hx hb dX2_costOf_24 (by decide) (fun c_24 => ?_) (fun c_24 => ?_)
      · rw [h6] at c_24
        have h9_15 : t15 = nc := eq_of_le (t := t15) (k := nc) c_24 (by omega) h_t15
        subst t15
        subst e_x15_3
        refine lv_iload_n hx hb dX2_costOf_59 rfl (lv_at hl 1 rfl) ?_
        exact q_iret hb hx hr hlocks (by rfl) dX2_costOf_60
      · rw [h6] at c_24
        have h9_15 : t15 < nc := lt_of_nlt (t := t15) (k := nc) c_24 (by omega) h_t15
        refine lv_iload hx hb dX2_costOf_27 (lv_at hl 2 rfl) ?_
        refine lv_iload hx hb dX2_costOf_29 (lv_at hl 0 rfl) ?_
        refine lv_ishr hx hb dX2_costOf_31 ?_
        refine lv_iconst (v := 1) hx hb dX2_costOf_32 (by decide) ?_
        refine lv_iand hx hb dX2_costOf_33 ?_
        refine lv_if_eq (tgt := 53) hx hb dX2_costOf_34 (by decide) (fun c_34 => ?_) (fun c_34 => ?_)
        · skip
          refine lv_iinc (v := ((nI t15) + 1)) (lv' := [(5, .int ((nI t15) + 1)), (3, .int x15_3), (4, .int (x &&& (op ^^^ (-1)))), (0, .ref (ad kb)), (1, .ref (ad g)), (2, .int x)]) hx hb dX2_costOf_53 hl (k := 0) rfl rfl (by decide) rfl (fun ls hl => ?_)
          refine lv_goto (tgt := 15) hx hb dX2_costOf_56 (by decide) ?_
          exact ih_15 (t15 + 1) x15_3 (by omega) (by omega) (by rw [s_X2_costOf_15, ← e_x15_3, s_X2_costOf_15s, if_pos c_34]) ls (by rw [(show nI (t15 + 1) = nI t15 + 1 by exact nI_succ _)]; exact lv_sub hl [0, 1, 2, 3, 4, 5] rfl)
        · skip
          refine lv_iload_n hx hb dX2_costOf_37 rfl (lv_at hl 1 rfl) ?_
          refine lv_aload_n hx hb dX2_costOf_38 rfl (lv_at hl 4 rfl) ?_
          refine q_getN (v := .ref (ad h)) (fs := standF ad g h op) (T := TX7) (k := 0) (C := RX7) (N := 3) (ci := 7) X hK hP hK.1.2.1 rfl nX2_costOf_37 (by decide) h_g m_g rfl dX2_costOf_39 ?_
          refine q_get (v := .ref (ad (h + 3))) (fs := hallF ad h hv) X hK hP fX2_costOf_69 h_h m_h rfl dX2_costOf_42 ?_
          refine lv_iload hx hb dX2_costOf_45 (lv_at hl 0 rfl) ?_
          refine lv_iconst (v := 3) hx hb dX2_costOf_47 (by decide) ?_
          refine q_rdV (As := [.int (nI t15), .int 3]) (rest := [.int x15_3]) (c_X8_at_ l D cB cI cJ ad n M (h + 3) (h + 4) 25 5 cf (nI t15) 3 h_h_3 h_h_4 m_h_3 m_h_4 (by decide)) X hK hP hS hl.1 rfl gX2_costOf_X8_at_ yd_X8_at_ ⟨Nat.le_of_ble_eq_true rfl, Nat.le_of_ble_eq_true rfl⟩ h_h_3 m_h_3 (ci := 8) rfl rfl (Nat.le_of_ble_eq_true rfl) ⟨Nat.zero_le _, Nat.zero_le _⟩ dX2_costOf_48 ?_
          refine lv_iadd hx hb dX2_costOf_51 ?_
          refine lv_istore_n (lv' := [(3, .int (x15_3 + (tat 25 cf ((nI t15) * 5 + 3)))), (5, .int (nI t15)), (4, .int (x &&& (op ^^^ (-1)))), (0, .ref (ad kb)), (1, .ref (ad g)), (2, .int x)]) hx hb dX2_costOf_52 rfl hl (by decide) rfl (fun ls hl => ?_)
          refine lv_iinc (v := ((nI t15) + 1)) (lv' := [(5, .int ((nI t15) + 1)), (3, .int (x15_3 + (tat 25 cf ((nI t15) * 5 + 3)))), (4, .int (x &&& (op ^^^ (-1)))), (0, .ref (ad kb)), (1, .ref (ad g)), (2, .int x)]) hx hb dX2_costOf_53 hl (k := 1) rfl rfl (by decide) rfl (fun ls hl => ?_)
          refine lv_goto (tgt := 15) hx hb dX2_costOf_56 (by decide) ?_
          exact ih_15 (t15 + 1) (x15_3 + (tat 25 cf ((nI t15) * 5 + 3))) (by omega) (by omega) (by rw [s_X2_costOf_15, ← e_x15_3, s_X2_costOf_15s, if_neg c_34]) ls (by rw [(show nI (t15 + 1) = nI t15 + 1 by exact nI_succ _)]; exact lv_sub hl [0, 1, 2, 3, 4, 5] rfl)
  exact loop_15 (nc + 1) 0 0 (by omega) (by omega) (by rfl) ls (lv_sub hl [0, 2, 1, 3, 4, 5] rfl)
set_option maxRecDepth 20000 in
theorem nX2_thingsIn_37 : ∀ w ∈ u_ws RX7 TX7 3, w ∈ wsX2_thingsIn := by decide +kernel
set_option maxRecDepth 20000 in
theorem fX2_thingsIn_47 : FL wsX2_thingsIn RX2 47 0 6 := ⟨RX0, TX0, 12, rfl, by decide +kernel, by decide, by decide +kernel⟩
def s_X2_thingsIn_5s (nt : Nat) (plf : Nat → Int32) (x : Int32) (t5 : Nat) (x5_3 : Int32) : Int32 := if ((x >>> ((nI t5) &&& 31)) &&& 1) = 0 then x5_3 else (x5_3 ||| (taS plf (nI t5) nt))
def s_X2_thingsIn_5 (nt : Nat) (plf : Nat → Int32) (x : Int32) (z0 : Int32) : Nat → Int32
  | 0 => z0
  | t + 1 => s_X2_thingsIn_5s nt plf x t (s_X2_thingsIn_5 nt plf x z0 t)
def s_X2_thingsIn (nt : Nat) (nc : Nat) (plf : Nat → Int32) (x : Int32) : Int32 := (s_X2_thingsIn_5 nt plf x 0 nc)
set_option maxHeartbeats 4000000 in
set_option maxRecDepth 100000 in
theorem c_X2_thingsIn (l : Launch) (D : va_G) (cB cI cJ : ClassId) (ad : Nat → Nat) (n : Nat) (M : Nat → va_E) (kb g h nt nc : Nat) (op : Int32) (hv plf : Nat → Int32) (x : Int32) (h_kb : kb < n) (h_g : g < n) (h_g_1 : g + 1 < n) (h_g_2 : g + 2 < n) (h_h : h < n) (m_kb : M kb = .inr (2, packF ad kb)) (m_g : M g = .inr (7, standF ad g h op)) (m_g_1 : M (g + 1) = .inr (8, [.int 1, .ref (ad (g + 2))])) (m_g_2 : M (g + 2) = .inl (cI, 12, .inl plf)) (m_h : M h = .inr (0, hallF ad h hv)) (h6 : hv 6 = nI nc) (hnc : nc ≤ 5) (h7 : hv 7 = nI nt) (hnt : nt ≤ 12) : cR l D cB cI cJ ad n M yX2_thingsIn wsX2_thingsIn 2 44 [.ref (ad kb), .ref (ad g), .int x] (s_X2_thingsIn nt nc plf x) := by
  refine q_body (cc := cX2_thingsIn) (maxL := 5) (ret := (some .int)) (by decide) rfl (Nat.le_of_ble_eq_true rfl) ?_
  intro p e s m args below meth c ls X hr hlocks hK hP hl
  obtain ⟨hx, hb, hml, hown, hts⟩ := id X
  have hS : va_S (ipA ad n) s.heap s.heap [] := va_S.rf
  have hl : lv_has ls 5 [(0, .ref (ad kb)), (1, .ref (ad g)), (2, .int x)] := hl
  refine lv_iconst (v := 0) hx hb dX2_thingsIn_0 (by decide) ?_
  refine lv_istore_n (lv' := [(3, .int 0), (0, .ref (ad kb)), (1, .ref (ad g)), (2, .int x)]) hx hb dX2_thingsIn_1 rfl hl (by decide) rfl (fun ls hl => ?_)
  refine lv_iconst (v := 0) hx hb dX2_thingsIn_2 (by decide) ?_
  refine lv_istore (lv' := [(4, .int 0), (3, .int 0), (0, .ref (ad kb)), (1, .ref (ad g)), (2, .int x)]) hx hb dX2_thingsIn_3 hl (by decide) rfl (fun ls hl => ?_)
  have loop_5 : ∀ (fuel : Nat) (t5 : Nat) (x5_3 : Int32), nc - (t5) < fuel → t5 ≤ nc → x5_3 = (s_X2_thingsIn_5 nt plf x 0 t5) → ∀ (ls : Array Slot), lv_has ls 5 [(4, .int (nI t5)), (3, .int x5_3), (0, .ref (ad kb)), (1, .ref (ad g)), (2, .int x)] → W p l e (rmOf 2 44) s m args below meth c s.heap [] 0 0 (MQ below (vp_Si (fun r9 => r9 = s_X2_thingsIn nt nc plf x)) args s 0 0 (fun _ => False)) (F0 m 5 ls []) := by
    intro fuel
    induction fuel with
    | zero =>
      intro t5 x5_3 hz
      exact absurd hz (Nat.not_lt_zero _)
    | succ fuel ih_5 =>
      intro t5 x5_3 hz_5 h_t5 e_x5_3 ls hl
      skip
      refine lv_iload hx hb dX2_thingsIn_5 (lv_at hl 0 rfl) ?_
      refine lv_aload_n hx hb dX2_thingsIn_7 rfl (lv_at hl 3 rfl) ?_
      refine q_getN (v := .ref (ad h)) (fs := standF ad g h op) (T := TX7) (k := 0) (C := RX7) (N := 3) (ci := 7) X hK hP hK.1.2.1 rfl nX2_thingsIn_37 (by decide) h_g m_g rfl dX2_thingsIn_8 ?_
      refine q_get (v := .int (hv 6)) (fs := hallF ad h hv) X hK hP fX2_thingsIn_47 h_h m_h rfl dX2_thingsIn_11 ?_
      refine lv_icmp_ge (tgt := 41) hx hb dX2_thingsIn_14 (by decide) (fun c_14 => ?_) (fun c_14 => ?_)
      · rw [h6] at c_14
        have h9_5 : t5 = nc := eq_of_le (t := t5) (k := nc) c_14 (by omega) h_t5
        subst t5
        subst e_x5_3
        refine lv_iload_n hx hb dX2_thingsIn_41 rfl (lv_at hl 1 rfl) ?_
        exact q_iret hb hx hr hlocks (by rfl) dX2_thingsIn_42
      · rw [h6] at c_14
        have h9_5 : t5 < nc := lt_of_nlt (t := t5) (k := nc) c_14 (by omega) h_t5
        refine lv_iload_n hx hb dX2_thingsIn_17 rfl (lv_at hl 4 rfl) ?_
        refine lv_iload hx hb dX2_thingsIn_18 (lv_at hl 0 rfl) ?_
        refine lv_ishr hx hb dX2_thingsIn_20 ?_
        refine lv_iconst (v := 1) hx hb dX2_thingsIn_21 (by decide) ?_
        refine lv_iand hx hb dX2_thingsIn_22 ?_
        refine lv_if_eq (tgt := 35) hx hb dX2_thingsIn_23 (by decide) (fun c_23 => ?_) (fun c_23 => ?_)
        · skip
          refine lv_iinc (v := ((nI t5) + 1)) (lv' := [(4, .int ((nI t5) + 1)), (3, .int x5_3), (0, .ref (ad kb)), (1, .ref (ad g)), (2, .int x)]) hx hb dX2_thingsIn_35 hl (k := 0) rfl rfl (by decide) rfl (fun ls hl => ?_)
          refine lv_goto (tgt := 5) hx hb dX2_thingsIn_38 (by decide) ?_
          exact ih_5 (t5 + 1) x5_3 (by omega) (by omega) (by rw [s_X2_thingsIn_5, ← e_x5_3, s_X2_thingsIn_5s, if_pos c_23]) ls (by rw [(show nI (t5 + 1) = nI t5 + 1 by exact nI_succ _)]; exact lv_sub hl [0, 1, 2, 3, 4] rfl)
        · skip
          refine lv_iload_n hx hb dX2_thingsIn_26 rfl (lv_at hl 1 rfl) ?_
          refine lv_aload_n hx hb dX2_thingsIn_27 rfl (lv_at hl 3 rfl) ?_
          refine lv_iload hx hb dX2_thingsIn_28 (lv_at hl 0 rfl) ?_
          refine q_rdV (As := [.int (nI t5)]) (rest := [.int x5_3]) (c_X7_thingsAt l D cB cI cJ ad n M g h nt op hv plf (nI t5) h_g h_g_1 h_g_2 h_h m_g m_g_1 m_g_2 m_h h7 hnt) X hK hP hS hl.1 rfl gX2_thingsIn_X7_thingsAt yd_X7_thingsAt ⟨Nat.le_of_ble_eq_true rfl, Nat.le_of_ble_eq_true rfl⟩ h_g m_g (ci := 7) rfl rfl (Nat.le_of_ble_eq_true rfl) ⟨Nat.zero_le _, Nat.zero_le _⟩ dX2_thingsIn_30 ?_
          refine lv_ior hx hb dX2_thingsIn_33 ?_
          refine lv_istore_n (lv' := [(3, .int (x5_3 ||| (taS plf (nI t5) nt))), (4, .int (nI t5)), (0, .ref (ad kb)), (1, .ref (ad g)), (2, .int x)]) hx hb dX2_thingsIn_34 rfl hl (by decide) rfl (fun ls hl => ?_)
          refine lv_iinc (v := ((nI t5) + 1)) (lv' := [(4, .int ((nI t5) + 1)), (3, .int (x5_3 ||| (taS plf (nI t5) nt))), (0, .ref (ad kb)), (1, .ref (ad g)), (2, .int x)]) hx hb dX2_thingsIn_35 hl (k := 1) rfl rfl (by decide) rfl (fun ls hl => ?_)
          refine lv_goto (tgt := 5) hx hb dX2_thingsIn_38 (by decide) ?_
          exact ih_5 (t5 + 1) (x5_3 ||| (taS plf (nI t5) nt)) (by omega) (by omega) (by rw [s_X2_thingsIn_5, ← e_x5_3, s_X2_thingsIn_5s, if_neg c_23]) ls (by rw [(show nI (t5 + 1) = nI t5 + 1 by exact nI_succ _)]; exact lv_sub hl [0, 1, 2, 3, 4] rfl)
  exact loop_5 (nc + 1) 0 0 (by omega) (by omega) (by rfl) ls (lv_sub hl [0, 1, 2, 3, 4] rfl)
set_option maxRecDepth 20000 in
theorem nX2_othersGo_37 : ∀ w ∈ u_ws RX7 TX7 3, w ∈ wsX2_othersGo := by decide +kernel
set_option maxRecDepth 20000 in
theorem fX2_othersGo_47 : FL wsX2_othersGo RX2 47 0 6 := ⟨RX0, TX0, 12, rfl, by decide +kernel, by decide, by decide +kernel⟩
def s_X2_othersGo_2 (nt : Nat) (cf : Nat → Int32) (tf : Nat → Int32) (plf : Nat → Int32) (x : Int32) : Nat → Nat → Int32
  | 0, _ => 1
  | r + 1, t2 => if ((x >>> ((nI t2) &&& 31)) &&& 1) = 0 then if (ovS nt cf tf plf (nI t2)) ≤ 0 then s_X2_othersGo_2 nt cf tf plf x r (t2 + 1) else 0 else s_X2_othersGo_2 nt cf tf plf x r (t2 + 1)
def s_X2_othersGo (nt : Nat) (nc : Nat) (cf : Nat → Int32) (tf : Nat → Int32) (plf : Nat → Int32) (x : Int32) : Int32 := (s_X2_othersGo_2 nt cf tf plf x nc 0)
set_option maxHeartbeats 4000000 in
set_option maxRecDepth 100000 in
theorem c_X2_othersGo (l : Launch) (D : va_G) (cB cI cJ : ClassId) (ad : Nat → Nat) (n : Nat) (M : Nat → va_E) (kb g h nt nc : Nat) (op : Int32) (hv cf tf plf : Nat → Int32) (x : Int32) (h_kb : kb < n) (h_g : g < n) (h_g_1 : g + 1 < n) (h_g_2 : g + 2 < n) (h_h : h < n) (h_h_5 : h + 5 < n) (h_h_6 : h + 6 < n) (h_h_3 : h + 3 < n) (h_h_4 : h + 4 < n) (m_kb : M kb = .inr (2, packF ad kb)) (m_g : M g = .inr (7, standF ad g h op)) (m_g_1 : M (g + 1) = .inr (8, [.int 1, .ref (ad (g + 2))])) (m_g_2 : M (g + 2) = .inl (cI, 12, .inl plf)) (m_h : M h = .inr (0, hallF ad h hv)) (m_h_5 : M (h + 5) = .inr (8, [.int 7, .ref (ad (h + 6))])) (m_h_6 : M (h + 6) = .inl (cI, 84, .inl tf)) (m_h_3 : M (h + 3) = .inr (8, [.int 5, .ref (ad (h + 4))])) (m_h_4 : M (h + 4) = .inl (cI, 25, .inl cf)) (h6 : hv 6 = nI nc) (hnc : nc ≤ 5) (h7 : hv 7 = nI nt) (hnt : nt ≤ 12) : cR l D cB cI cJ ad n M yX2_othersGo wsX2_othersGo 4 89 [.ref (ad kb), .ref (ad g), .int x] (s_X2_othersGo nt nc cf tf plf x) := by
  refine q_body (cc := cX2_othersGo) (maxL := 4) (ret := (some .boolean)) (by decide) rfl (Nat.le_of_ble_eq_true rfl) ?_
  intro p e s m args below meth c ls X hr hlocks hK hP hl
  obtain ⟨hx, hb, hml, hown, hts⟩ := id X
  have hS : va_S (ipA ad n) s.heap s.heap [] := va_S.rf
  have hl : lv_has ls 4 [(0, .ref (ad kb)), (1, .ref (ad g)), (2, .int x)] := hl
  refine lv_iconst (v := 0) hx hb dX2_othersGo_0 (by decide) ?_
  refine lv_istore_n (lv' := [(3, .int 0), (0, .ref (ad kb)), (1, .ref (ad g)), (2, .int x)]) hx hb dX2_othersGo_1 rfl hl (by decide) rfl (fun ls hl => ?_)
  have loop_2 : ∀ (fuel : Nat) (t2 : Nat), nc - (t2) < fuel → t2 ≤ nc → s_X2_othersGo_2 nt cf tf plf x (nc - (t2)) t2 = s_X2_othersGo nt nc cf tf plf x → ∀ (ls : Array Slot), lv_has ls 4 [(3, .int (nI t2)), (0, .ref (ad kb)), (1, .ref (ad g)), (2, .int x)] → W p l e (rmOf 4 89) s m args below meth c s.heap [] 0 0 (MQ below (vp_Si (fun r9 => r9 = s_X2_othersGo nt nc cf tf plf x)) args s 0 0 (fun _ => False)) (F0 m 2 ls []) := by
    intro fuel
    induction fuel with
    | zero =>
      intro t2 hz
      exact absurd hz (Nat.not_lt_zero _)
    | succ fuel ih_2 =>
      intro t2 hz_2 h_t2 hB_2 ls hl
      skip
      refine lv_iload_n hx hb dX2_othersGo_2 rfl (lv_at hl 0 rfl) ?_
      refine lv_aload_n hx hb dX2_othersGo_3 rfl (lv_at hl 2 rfl) ?_
      refine q_getN (v := .ref (ad h)) (fs := standF ad g h op) (T := TX7) (k := 0) (C := RX7) (N := 3) (ci := 7) X hK hP hK.1.2.1 rfl nX2_othersGo_37 (by decide) h_g m_g rfl dX2_othersGo_4 ?_
      refine q_get (v := .int (hv 6)) (fs := hallF ad h hv) X hK hP fX2_othersGo_47 h_h m_h rfl dX2_othersGo_7 ?_
      refine lv_icmp_ge (tgt := 37) hx hb dX2_othersGo_10 (by decide) (fun c_10 => ?_) (fun c_10 => ?_)
      · rw [h6] at c_10
        have h9_2 : t2 = nc := eq_of_le (t := t2) (k := nc) c_10 (by omega) h_t2
        subst t2
        refine lv_iconst (v := 1) hx hb dX2_othersGo_37 (by decide) ?_
        exact q_zret X hr hlocks (rfl) (by rw [← hB_2, Nat.sub_self, s_X2_othersGo_2]) dX2_othersGo_38
      · rw [h6] at c_10
        have h9_2 : t2 < nc := lt_of_nlt (t := t2) (k := nc) c_10 (by omega) h_t2
        refine lv_iload_n hx hb dX2_othersGo_13 rfl (lv_at hl 3 rfl) ?_
        refine lv_iload_n hx hb dX2_othersGo_14 rfl (lv_at hl 0 rfl) ?_
        refine lv_ishr hx hb dX2_othersGo_15 ?_
        refine lv_iconst (v := 1) hx hb dX2_othersGo_16 (by decide) ?_
        refine lv_iand hx hb dX2_othersGo_17 ?_
        refine lv_if_ne (tgt := 31) hx hb dX2_othersGo_18 (by decide) (fun c_18 => ?_) (fun c_18 => ?_)
        · skip
          refine lv_iinc (v := ((nI t2) + 1)) (lv' := [(3, .int ((nI t2) + 1)), (0, .ref (ad kb)), (1, .ref (ad g)), (2, .int x)]) hx hb dX2_othersGo_31 hl (k := 0) rfl rfl (by decide) rfl (fun ls hl => ?_)
          refine lv_goto (tgt := 2) hx hb dX2_othersGo_34 (by decide) ?_
          exact ih_2 (t2 + 1)  (by omega) (by omega) (by rw [← hB_2, show nc - (t2) = (nc - (t2 + 1)) + 1 by omega, s_X2_othersGo_2, if_neg c_18]) ls (by rw [(show nI (t2 + 1) = nI t2 + 1 by exact nI_succ _)]; exact lv_sub hl [0, 1, 2, 3] rfl)
        · skip
          refine lv_aload_n hx hb dX2_othersGo_21 rfl (lv_at hl 2 rfl) ?_
          refine lv_iload_n hx hb dX2_othersGo_22 rfl (lv_at hl 0 rfl) ?_
          refine q_rdV (As := [.int (nI t2)]) (rest := []) (c_X7_overIn l D cB cI cJ ad n M g h nt op hv cf tf plf (nI t2) h_g h_g_1 h_g_2 h_h h_h_5 h_h_6 h_h_3 h_h_4 m_g m_g_1 m_g_2 m_h m_h_5 m_h_6 m_h_3 m_h_4 h7 hnt) X hK hP hS hl.1 rfl gX2_othersGo_X7_overIn yd_X7_overIn ⟨Nat.le_of_ble_eq_true rfl, Nat.le_of_ble_eq_true rfl⟩ h_g m_g (ci := 7) rfl rfl (Nat.le_of_ble_eq_true rfl) ⟨Nat.zero_le _, Nat.zero_le _⟩ dX2_othersGo_23 ?_
          refine lv_if_le (tgt := 31) hx hb dX2_othersGo_26 (by decide) (fun c_26 => ?_) (fun c_26 => ?_)
          · skip
            refine lv_iinc (v := ((nI t2) + 1)) (lv' := [(3, .int ((nI t2) + 1)), (0, .ref (ad kb)), (1, .ref (ad g)), (2, .int x)]) hx hb dX2_othersGo_31 hl (k := 0) rfl rfl (by decide) rfl (fun ls hl => ?_)
            refine lv_goto (tgt := 2) hx hb dX2_othersGo_34 (by decide) ?_
            exact ih_2 (t2 + 1)  (by omega) (by omega) (by rw [← hB_2, show nc - (t2) = (nc - (t2 + 1)) + 1 by omega, s_X2_othersGo_2, if_pos c_18, if_pos c_26]) ls (by rw [(show nI (t2 + 1) = nI t2 + 1 by exact nI_succ _)]; exact lv_sub hl [0, 1, 2, 3] rfl)
          · skip
            refine lv_iconst (v := 0) hx hb dX2_othersGo_29 (by decide) ?_
            exact q_zret X hr hlocks (rfl) (by rw [← hB_2, show nc - t2 = (nc - (t2 + 1)) + 1 by omega, s_X2_othersGo_2, if_pos c_18, if_neg c_26]) dX2_othersGo_30
  exact loop_2 (nc + 1) 0  (by omega) (by omega) (by rw [s_X2_othersGo] <;> rfl) ls (lv_sub hl [0, 1, 2, 3] rfl)
set_option maxRecDepth 20000 in
theorem fX2_listItems_14 : FL wsX2_listItems RX2 14 2 0 := ⟨RX2, TX2, 3, rfl, by decide +kernel, by decide, by decide +kernel⟩
def s_X2_listItems_4s (x : Int32) (t4 : Nat) (x4_2 : Int32) (y4_0 : Nat → Int32) : Int32 × (Nat → Int32) := if ((x >>> ((nI t4) &&& 31)) &&& 1) = 0 then (x4_2, y4_0) else ((x4_2 + 1), tset 8 y4_0 x4_2 (nI t4))
def s_X2_listItems_4 (x : Int32) (z0 : Int32) (z1 : Nat → Int32) : Nat → Int32 × (Nat → Int32)
  | 0 => (z0, z1)
  | t + 1 => s_X2_listItems_4s x t ((s_X2_listItems_4 x z0 z1 t).1) ((s_X2_listItems_4 x z0 z1 t).2)
def s_X2_listItems (itf : Nat → Int32) (x : Int32) : Int32 := ((s_X2_listItems_4 x 0 itf 12).1)
set_option maxHeartbeats 4000000 in
set_option maxRecDepth 100000 in
theorem c_X2_listItems (l : Launch) (D : va_G) (cB cI cJ : ClassId) (ad : Nat → Nat) (n : Nat) (M : Nat → va_E) (hI : ipI ad n) (kb : Nat) (itf : Nat → Int32) (x : Int32) (h_kb : kb < n) (h_kb_1 : kb + 1 < n) (h_kb_2 : kb + 2 < n) (m_kb : M kb = .inr (2, packF ad kb)) (m_kb_1 : M (kb + 1) = .inr (8, [.int 1, .ref (ad (kb + 2))])) (m_kb_2 : M (kb + 2) = .inl (cI, 8, .inl itf))  : cWi l D cB cI cJ ad n M yX2_listItems wsX2_listItems 1 22 [.ref (ad kb), .int x] (fun r M' => r = s_X2_listItems itf x ∧ M' (kb + 2) = .inl (cI, 8, .inl ((s_X2_listItems_4 x 0 itf 12).2)) ∧ ∀ q : Nat, q ≠ kb + 2 → M' q = M q) := by
  refine q_body (cc := cX2_listItems) (maxL := 4) (ret := (some .int)) (by decide) rfl (Nat.le_of_ble_eq_true rfl) ?_
  intro p e s m args below meth c ls X hr hlocks hK hP hl
  obtain ⟨hx, hb, hml, hown, hts⟩ := id X
  have hS : va_S (ipA ad n) s.heap s.heap [] := va_S.rf
  have hl : lv_has ls 4 [(0, .ref (ad kb)), (1, .int x)] := hl
  refine lv_iconst (v := 0) hx hb dX2_listItems_0 (by decide) ?_
  refine lv_istore_n (lv' := [(2, .int 0), (0, .ref (ad kb)), (1, .int x)]) hx hb dX2_listItems_1 rfl hl (by decide) rfl (fun ls hl => ?_)
  refine lv_iconst (v := 0) hx hb dX2_listItems_2 (by decide) ?_
  refine lv_istore_n (lv' := [(3, .int 0), (2, .int 0), (0, .ref (ad kb)), (1, .int x)]) hx hb dX2_listItems_3 rfl hl (by decide) rfl (fun ls hl => ?_)
  have loop_4 : ∀ (fuel : Nat) (t4 : Nat) (x4_2 : Int32) (y4_0 : Nat → Int32), 12 - (t4) < fuel → t4 ≤ 12 → x4_2 = (s_X2_listItems_4 x 0 itf t4).1 → y4_0 = (s_X2_listItems_4 x 0 itf t4).2 → ∀ (ML4 : Nat → va_E) (H : Heap) (locs : List Loc), ML4 (kb + 2) = .inl (cI, 8, .inl y4_0) → (∀ q : Nat, q ≠ kb + 2 → ML4 q = M q) → va_P D vwCl (ip ad n ML4) H → va_S (ipA ad n) s.heap H locs → ∀ (ls : Array Slot), lv_has ls 4 [(3, .int (nI t4)), (2, .int x4_2), (0, .ref (ad kb)), (1, .int x)] → W p l e (rmOf 1 22) s m args below meth c H locs 0 0 (MQ below (va_Qi (fun r M' => r = s_X2_listItems itf x ∧ M' (kb + 2) = .inl (cI, 8, .inl ((s_X2_listItems_4 x 0 itf 12).2)) ∧ ∀ q : Nat, q ≠ kb + 2 → M' q = M q) (fun M' t => va_P D vwCl (ip ad n M') t.heap) (ipA ad n)) args s 0 0 (ipA ad n)) (F0 m 4 ls []) := by
    intro fuel
    induction fuel with
    | zero =>
      intro t4 x4_2 y4_0 hz
      exact absurd hz (Nat.not_lt_zero _)
    | succ fuel ih_4 =>
      intro t4 x4_2 y4_0 hz_4 h_t4 e_x4_2 e_y4_0 ML4 H locs mL4_0 fL4 hP hS ls hl
      skip
      refine lv_iload_n hx hb dX2_listItems_4 rfl (lv_at hl 0 rfl) ?_
      refine lv_bipush (v := 12) hx hb dX2_listItems_5 (by decide) ?_
      refine lv_icmp_ge (tgt := 36) hx hb dX2_listItems_7 (by decide) (fun c_7 => ?_) (fun c_7 => ?_)
      · skip
        have h9_4 : t4 = 12 := eq_of_le (t := t4) (k := 12) c_7 (by omega) h_t4
        subst h9_4
        subst e_x4_2
        subst e_y4_0
        refine lv_iload_n hx hb dX2_listItems_36 rfl (lv_at hl 1 rfl) ?_
        exact q_wzret X hr hlocks hP hS (rfl) ⟨(by rfl), mL4_0, (fun q n0 => (fL4 q n0))⟩ dX2_listItems_37
      · skip
        have h9_4 : t4 < 12 := lt_of_nlt (t := t4) (k := 12) c_7 (by omega) h_t4
        refine lv_iload_n hx hb dX2_listItems_10 rfl (lv_at hl 3 rfl) ?_
        refine lv_iload_n hx hb dX2_listItems_11 rfl (lv_at hl 0 rfl) ?_
        refine lv_ishr hx hb dX2_listItems_12 ?_
        refine lv_iconst (v := 1) hx hb dX2_listItems_13 (by decide) ?_
        refine lv_iand hx hb dX2_listItems_14 ?_
        refine lv_if_eq (tgt := 30) hx hb dX2_listItems_15 (by decide) (fun c_15 => ?_) (fun c_15 => ?_)
        · skip
          refine lv_iinc (v := ((nI t4) + 1)) (lv' := [(3, .int ((nI t4) + 1)), (2, .int x4_2), (0, .ref (ad kb)), (1, .int x)]) hx hb dX2_listItems_30 hl (k := 0) rfl rfl (by decide) rfl (fun ls hl => ?_)
          refine lv_goto (tgt := 4) hx hb dX2_listItems_33 (by decide) ?_
          exact ih_4 (t4 + 1) x4_2 y4_0 (by omega) (by omega) (by rw [s_X2_listItems_4, ← e_x4_2, ← e_y4_0, s_X2_listItems_4s, if_pos c_15]) (by rw [s_X2_listItems_4, ← e_x4_2, ← e_y4_0, s_X2_listItems_4s, if_pos c_15]) _ _ _ mL4_0 (fun q n0 => (fL4 q n0)) hP hS ls (by rw [(show nI (t4 + 1) = nI t4 + 1 by exact nI_succ _)]; exact lv_sub hl [0, 1, 2, 3] rfl)
        · skip
          refine lv_aload_n hx hb dX2_listItems_18 rfl (lv_at hl 2 rfl) ?_
          refine q_get (v := .ref (ad (kb + 1))) (fs := packF ad kb) X hK hP fX2_listItems_14 h_kb ((fL4 kb (by omega)).trans m_kb) rfl dX2_listItems_19 ?_
          refine lv_iload_n hx hb dX2_listItems_22 rfl (lv_at hl 1 rfl) ?_
          refine lv_iload_n hx hb dX2_listItems_23 rfl (lv_at hl 0 rfl) ?_
          refine q_wrVv (As := [.int x4_2, .int (nI t4)]) (rest := []) (c_X8_set l D cB cI cJ ad n ML4 hI (kb + 1) (kb + 2) 8 1 y4_0 x4_2 (nI t4) h_kb_1 h_kb_2 ((fL4 (kb + 1) (by omega)).trans m_kb_1) mL4_0 (by decide)) X hK hP hS hl.1 rfl gX2_listItems_X8_set yd_X8_set ⟨Nat.le_of_ble_eq_true rfl, Nat.le_of_ble_eq_true rfl⟩ h_kb_1 ((fL4 (kb + 1) (by omega)).trans m_kb_1) (ci := 8) rfl rfl (Nat.le_of_ble_eq_true rfl) ⟨Nat.zero_le _, Nat.zero_le _⟩ dX2_listItems_24 (fun M2 H locs hp1 hP hS => ?_)
          obtain ⟨g4, fr5⟩ := hp1
          refine lv_iinc (v := (x4_2 + 1)) (lv' := [(2, .int (x4_2 + 1)), (3, .int (nI t4)), (0, .ref (ad kb)), (1, .int x)]) hx hb dX2_listItems_27 hl (k := 1) rfl rfl (by decide) rfl (fun ls hl => ?_)
          refine lv_iinc (v := ((nI t4) + 1)) (lv' := [(3, .int ((nI t4) + 1)), (2, .int (x4_2 + 1)), (0, .ref (ad kb)), (1, .int x)]) hx hb dX2_listItems_30 hl (k := 1) rfl rfl (by decide) rfl (fun ls hl => ?_)
          refine lv_goto (tgt := 4) hx hb dX2_listItems_33 (by decide) ?_
          exact ih_4 (t4 + 1) (x4_2 + 1) (tset 8 y4_0 x4_2 (nI t4)) (by omega) (by omega) (by rw [s_X2_listItems_4, ← e_x4_2, ← e_y4_0, s_X2_listItems_4s, if_neg c_15]) (by rw [s_X2_listItems_4, ← e_x4_2, ← e_y4_0, s_X2_listItems_4s, if_neg c_15]) _ _ _ g4 (fun q n0 => ((fr5 q n0).trans (fL4 q n0))) hP hS ls (by rw [(show nI (t4 + 1) = nI t4 + 1 by exact nI_succ _)]; exact lv_sub hl [0, 1, 2, 3] rfl)
  exact loop_4 (12 + 1) 0 0 itf (by omega) (by omega) (by rfl) (by rfl) _ _ _ m_kb_2 (fun q n0 => rfl) hP hS ls (lv_sub hl [0, 1, 2, 3] rfl)
set_option maxRecDepth 20000 in
theorem fX2_thingsOf_14 : FL wsX2_thingsOf RX2 14 2 0 := ⟨RX2, TX2, 3, rfl, by decide +kernel, by decide, by decide +kernel⟩
def s_X2_thingsOf_4s (itf : Nat → Int32) (x : Int32) (t4 : Nat) (x4_2 : Int32) : Int32 := if ((x >>> ((nI t4) &&& 31)) &&& 1) = 0 then x4_2 else (x4_2 ||| (1 <<< ((tat 8 itf (nI t4)) &&& 31)))
def s_X2_thingsOf_4 (itf : Nat → Int32) (x : Int32) (z0 : Int32) : Nat → Int32
  | 0 => z0
  | t + 1 => s_X2_thingsOf_4s itf x t (s_X2_thingsOf_4 itf x z0 t)
def s_X2_thingsOf (itf : Nat → Int32) (x : Int32) : Int32 := (s_X2_thingsOf_4 itf x 0 8)
set_option maxHeartbeats 4000000 in
set_option maxRecDepth 100000 in
theorem c_X2_thingsOf (l : Launch) (D : va_G) (cB cI cJ : ClassId) (ad : Nat → Nat) (n : Nat) (M : Nat → va_E) (kb : Nat) (itf : Nat → Int32) (x : Int32) (h_kb : kb < n) (h_kb_1 : kb + 1 < n) (h_kb_2 : kb + 2 < n) (m_kb : M kb = .inr (2, packF ad kb)) (m_kb_1 : M (kb + 1) = .inr (8, [.int 1, .ref (ad (kb + 2))])) (m_kb_2 : M (kb + 2) = .inl (cI, 8, .inl itf))  : cR l D cB cI cJ ad n M yX2_thingsOf wsX2_thingsOf 1 21 [.ref (ad kb), .int x] (s_X2_thingsOf itf x) := by
  refine q_body (cc := cX2_thingsOf) (maxL := 4) (ret := (some .int)) (by decide) rfl (Nat.le_of_ble_eq_true rfl) ?_
  intro p e s m args below meth c ls X hr hlocks hK hP hl
  obtain ⟨hx, hb, hml, hown, hts⟩ := id X
  have hS : va_S (ipA ad n) s.heap s.heap [] := va_S.rf
  have hl : lv_has ls 4 [(0, .ref (ad kb)), (1, .int x)] := hl
  refine lv_iconst (v := 0) hx hb dX2_thingsOf_0 (by decide) ?_
  refine lv_istore_n (lv' := [(2, .int 0), (0, .ref (ad kb)), (1, .int x)]) hx hb dX2_thingsOf_1 rfl hl (by decide) rfl (fun ls hl => ?_)
  refine lv_iconst (v := 0) hx hb dX2_thingsOf_2 (by decide) ?_
  refine lv_istore_n (lv' := [(3, .int 0), (2, .int 0), (0, .ref (ad kb)), (1, .int x)]) hx hb dX2_thingsOf_3 rfl hl (by decide) rfl (fun ls hl => ?_)
  have loop_4 : ∀ (fuel : Nat) (t4 : Nat) (x4_2 : Int32), 8 - (t4) < fuel → t4 ≤ 8 → x4_2 = (s_X2_thingsOf_4 itf x 0 t4) → ∀ (ls : Array Slot), lv_has ls 4 [(3, .int (nI t4)), (2, .int x4_2), (0, .ref (ad kb)), (1, .int x)] → W p l e (rmOf 1 21) s m args below meth c s.heap [] 0 0 (MQ below (vp_Si (fun r9 => r9 = s_X2_thingsOf itf x)) args s 0 0 (fun _ => False)) (F0 m 4 ls []) := by
    intro fuel
    induction fuel with
    | zero =>
      intro t4 x4_2 hz
      exact absurd hz (Nat.not_lt_zero _)
    | succ fuel ih_4 =>
      intro t4 x4_2 hz_4 h_t4 e_x4_2 ls hl
      skip
      refine lv_iload_n hx hb dX2_thingsOf_4 rfl (lv_at hl 0 rfl) ?_
      refine lv_bipush (v := 8) hx hb dX2_thingsOf_5 (by decide) ?_
      refine lv_icmp_ge (tgt := 37) hx hb dX2_thingsOf_7 (by decide) (fun c_7 => ?_) (fun c_7 => ?_)
      · skip
        have h9_4 : t4 = 8 := eq_of_le (t := t4) (k := 8) c_7 (by omega) h_t4
        subst h9_4
        subst e_x4_2
        refine lv_iload_n hx hb dX2_thingsOf_37 rfl (lv_at hl 1 rfl) ?_
        exact q_iret hb hx hr hlocks (by rfl) dX2_thingsOf_38
      · skip
        have h9_4 : t4 < 8 := lt_of_nlt (t := t4) (k := 8) c_7 (by omega) h_t4
        refine lv_iload_n hx hb dX2_thingsOf_10 rfl (lv_at hl 3 rfl) ?_
        refine lv_iload_n hx hb dX2_thingsOf_11 rfl (lv_at hl 0 rfl) ?_
        refine lv_ishr hx hb dX2_thingsOf_12 ?_
        refine lv_iconst (v := 1) hx hb dX2_thingsOf_13 (by decide) ?_
        refine lv_iand hx hb dX2_thingsOf_14 ?_
        refine lv_if_eq (tgt := 31) hx hb dX2_thingsOf_15 (by decide) (fun c_15 => ?_) (fun c_15 => ?_)
        · skip
          refine lv_iinc (v := ((nI t4) + 1)) (lv' := [(3, .int ((nI t4) + 1)), (2, .int x4_2), (0, .ref (ad kb)), (1, .int x)]) hx hb dX2_thingsOf_31 hl (k := 0) rfl rfl (by decide) rfl (fun ls hl => ?_)
          refine lv_goto (tgt := 4) hx hb dX2_thingsOf_34 (by decide) ?_
          exact ih_4 (t4 + 1) x4_2 (by omega) (by omega) (by rw [s_X2_thingsOf_4, ← e_x4_2, s_X2_thingsOf_4s, if_pos c_15]) ls (by rw [(show nI (t4 + 1) = nI t4 + 1 by exact nI_succ _)]; exact lv_sub hl [0, 1, 2, 3] rfl)
        · skip
          refine lv_iload_n hx hb dX2_thingsOf_18 rfl (lv_at hl 1 rfl) ?_
          refine lv_iconst (v := 1) hx hb dX2_thingsOf_19 (by decide) ?_
          refine lv_aload_n hx hb dX2_thingsOf_20 rfl (lv_at hl 2 rfl) ?_
          refine q_get (v := .ref (ad (kb + 1))) (fs := packF ad kb) X hK hP fX2_thingsOf_14 h_kb m_kb rfl dX2_thingsOf_21 ?_
          refine lv_iload_n hx hb dX2_thingsOf_24 rfl (lv_at hl 0 rfl) ?_
          refine q_rdV (As := [.int (nI t4)]) (rest := [.int 1, .int x4_2]) (c_X8_at l D cB cI cJ ad n M (kb + 1) (kb + 2) 8 1 itf (nI t4) h_kb_1 h_kb_2 m_kb_1 m_kb_2 (by decide)) X hK hP hS hl.1 rfl gX2_thingsOf_X8_at yd_X8_at ⟨Nat.le_of_ble_eq_true rfl, Nat.le_of_ble_eq_true rfl⟩ h_kb_1 m_kb_1 (ci := 8) rfl rfl (Nat.le_of_ble_eq_true rfl) ⟨Nat.zero_le _, Nat.zero_le _⟩ dX2_thingsOf_25 ?_
          refine lv_ishl hx hb dX2_thingsOf_28 ?_
          refine lv_ior hx hb dX2_thingsOf_29 ?_
          refine lv_istore_n (lv' := [(2, .int (x4_2 ||| (1 <<< ((tat 8 itf (nI t4)) &&& 31)))), (3, .int (nI t4)), (0, .ref (ad kb)), (1, .int x)]) hx hb dX2_thingsOf_30 rfl hl (by decide) rfl (fun ls hl => ?_)
          refine lv_iinc (v := ((nI t4) + 1)) (lv' := [(3, .int ((nI t4) + 1)), (2, .int (x4_2 ||| (1 <<< ((tat 8 itf (nI t4)) &&& 31)))), (0, .ref (ad kb)), (1, .int x)]) hx hb dX2_thingsOf_31 hl (k := 1) rfl rfl (by decide) rfl (fun ls hl => ?_)
          refine lv_goto (tgt := 4) hx hb dX2_thingsOf_34 (by decide) ?_
          exact ih_4 (t4 + 1) (x4_2 ||| (1 <<< ((tat 8 itf (nI t4)) &&& 31))) (by omega) (by omega) (by rw [s_X2_thingsOf_4, ← e_x4_2, s_X2_thingsOf_4s, if_neg c_15]) ls (by rw [(show nI (t4 + 1) = nI t4 + 1 by exact nI_succ _)]; exact lv_sub hl [0, 1, 2, 3] rfl)
  exact loop_4 (8 + 1) 0 0 (by omega) (by omega) (by rfl) ls (lv_sub hl [0, 1, 2, 3] rfl)
set_option maxRecDepth 20000 in
theorem fX2_takeIntoCase_23 : FL wsX2_takeIntoCase RX2 23 2 2 := ⟨RX2, TX2, 3, rfl, by decide +kernel, by decide, by decide +kernel⟩
theorem yd_X2_thingsOf : YD yX2_thingsOf 1 := ⟨by decide +kernel, by decide +kernel, by decide +kernel⟩
theorem yd_X0_goesWith : YD yX0_goesWith 2 := ⟨by decide +kernel, by decide +kernel, by decide +kernel⟩
def s_X2_takeIntoCase_3s (nt : Nat) (cf : Nat → Int32) (tf : Nat → Int32) (itf : Nat → Int32) (x : Int32) (t3 : Nat) (y3_0 : Nat → Int32) : (Nat → Int32) := if (gwS nt cf tf x (s_X2_thingsOf itf (nI t3))) = 0 then (tset 256 y3_0 (nI t3) 0) else (tset 256 y3_0 (nI t3) 1)
def s_X2_takeIntoCase_3 (nt : Nat) (cf : Nat → Int32) (tf : Nat → Int32) (itf : Nat → Int32) (x : Int32) (z0 : Nat → Int32) : Nat → (Nat → Int32)
  | 0 => z0
  | t + 1 => s_X2_takeIntoCase_3s nt cf tf itf x t (s_X2_takeIntoCase_3 nt cf tf itf x z0 t)
set_option maxHeartbeats 4000000 in
set_option maxRecDepth 100000 in
theorem c_X2_takeIntoCase (l : Launch) (D : va_G) (cB cI cJ : ClassId) (ad : Nat → Nat) (n : Nat) (M : Nat → va_E) (hI : ipI ad n) (kb h nt : Nat) (hv cf tf itf tkf : Nat → Int32) (x al : Int32) (h_kb : kb < n) (h_kb_1 : kb + 1 < n) (h_kb_2 : kb + 2 < n) (h_kb_5 : kb + 5 < n) (h_kb_6 : kb + 6 < n) (h_h : h < n) (h_h_3 : h + 3 < n) (h_h_4 : h + 4 < n) (h_h_5 : h + 5 < n) (h_h_6 : h + 6 < n) (m_kb : M kb = .inr (2, packF ad kb)) (m_kb_1 : M (kb + 1) = .inr (8, [.int 1, .ref (ad (kb + 2))])) (m_kb_2 : M (kb + 2) = .inl (cI, 8, .inl itf)) (m_kb_5 : M (kb + 5) = .inr (8, [.int 1, .ref (ad (kb + 6))])) (m_kb_6 : M (kb + 6) = .inl (cI, 256, .inl tkf)) (m_h : M h = .inr (0, hallF ad h hv)) (m_h_3 : M (h + 3) = .inr (8, [.int 5, .ref (ad (h + 4))])) (m_h_4 : M (h + 4) = .inl (cI, 25, .inl cf)) (m_h_5 : M (h + 5) = .inr (8, [.int 7, .ref (ad (h + 6))])) (m_h_6 : M (h + 6) = .inl (cI, 84, .inl tf)) (h7 : hv 7 = nI nt) (hnt : nt ≤ 12) (hal : al = nI al.toNatClampNeg) (hna : al.toNatClampNeg ≤ 255) (hkh : kb + 6 < h ∨ h + 15 < kb) : cWv l D cB cI cJ ad n M yX2_takeIntoCase wsX2_takeIntoCase 3 69 [.ref (ad kb), .ref (ad h), .int x, .int al] (fun M' => M' (kb + 6) = .inl (cI, 256, .inl (s_X2_takeIntoCase_3 nt cf tf itf x tkf (al.toNatClampNeg + 1))) ∧ ∀ q : Nat, q ≠ kb + 6 → M' q = M q) := by
  refine q_body (cc := cX2_takeIntoCase) (maxL := 5) (ret := none) (by decide) rfl (Nat.le_of_ble_eq_true rfl) ?_
  intro p e s m args below meth c ls X hr hlocks hK hP hl
  obtain ⟨hx, hb, hml, hown, hts⟩ := id X
  have hS : va_S (ipA ad n) s.heap s.heap [] := va_S.rf
  have hl : lv_has ls 5 [(0, .ref (ad kb)), (1, .ref (ad h)), (2, .int x), (3, .int al)] := hl
  refine lv_iconst (v := 0) hx hb dX2_takeIntoCase_0 (by decide) ?_
  refine lv_istore (lv' := [(4, .int 0), (0, .ref (ad kb)), (1, .ref (ad h)), (2, .int x), (3, .int al)]) hx hb dX2_takeIntoCase_1 hl (by decide) rfl (fun ls hl => ?_)
  have loop_3 : ∀ (fuel : Nat) (t3 : Nat) (y3_0 : Nat → Int32), (al.toNatClampNeg + 1) - (t3) < fuel → t3 ≤ (al.toNatClampNeg + 1) → y3_0 = (s_X2_takeIntoCase_3 nt cf tf itf x tkf t3) → ∀ (ML3 : Nat → va_E) (H : Heap) (locs : List Loc), ML3 (kb + 6) = .inl (cI, 256, .inl y3_0) → (∀ q : Nat, q ≠ kb + 6 → ML3 q = M q) → va_P D vwCl (ip ad n ML3) H → va_S (ipA ad n) s.heap H locs → ∀ (ls : Array Slot), lv_has ls 5 [(4, .int (nI t3)), (0, .ref (ad kb)), (1, .ref (ad h)), (2, .int x), (3, .int al)] → W p l e (rmOf 3 69) s m args below meth c H locs 0 0 (MQ below (va_Qv (fun M' => M' (kb + 6) = .inl (cI, 256, .inl (s_X2_takeIntoCase_3 nt cf tf itf x tkf (al.toNatClampNeg + 1))) ∧ ∀ q : Nat, q ≠ kb + 6 → M' q = M q) (fun M' t => va_P D vwCl (ip ad n M') t.heap) (ipA ad n)) args s 0 0 (ipA ad n)) (F0 m 3 ls []) := by
    intro fuel
    induction fuel with
    | zero =>
      intro t3 y3_0 hz
      exact absurd hz (Nat.not_lt_zero _)
    | succ fuel ih_3 =>
      intro t3 y3_0 hz_3 h_t3 e_y3_0 ML3 H locs mL3_0 fL3 hP hS ls hl
      skip
      refine lv_iload hx hb dX2_takeIntoCase_3 (lv_at hl 0 rfl) ?_
      refine lv_iload_n hx hb dX2_takeIntoCase_5 rfl (lv_at hl 4 rfl) ?_
      refine lv_icmp_gt (tgt := 43) hx hb dX2_takeIntoCase_6 (by decide) (fun c_6 => ?_) (fun c_6 => ?_)
      · rw [hal] at c_6
        have h9_3 : t3 = al.toNatClampNeg + 1 := eq_of_lt (t := t3) (k := al.toNatClampNeg) c_6 (by omega) h_t3
        subst h9_3
        subst e_y3_0
        exact q_wvret X hr hlocks hP hS ⟨mL3_0, (fun q n0 => (fL3 q n0))⟩ dX2_takeIntoCase_43
      · rw [hal] at c_6
        have h9_3 : t3 < al.toNatClampNeg + 1 := le_of_nlt (t := t3) (k := al.toNatClampNeg) c_6 (by omega) h_t3
        refine lv_aload_n hx hb dX2_takeIntoCase_9 rfl (lv_at hl 1 rfl) ?_
        refine q_get (v := .ref (ad (kb + 5))) (fs := packF ad kb) X hK hP fX2_takeIntoCase_23 h_kb ((fL3 kb (by omega)).trans m_kb) rfl dX2_takeIntoCase_10 ?_
        refine lv_iload hx hb dX2_takeIntoCase_13 (lv_at hl 0 rfl) ?_
        refine lv_aload_n hx hb dX2_takeIntoCase_15 rfl (lv_at hl 2 rfl) ?_
        refine lv_iload_n hx hb dX2_takeIntoCase_16 rfl (lv_at hl 3 rfl) ?_
        refine lv_aload_n hx hb dX2_takeIntoCase_17 rfl (lv_at hl 1 rfl) ?_
        refine lv_iload hx hb dX2_takeIntoCase_18 (lv_at hl 0 rfl) ?_
        refine q_rdV (As := [.int (nI t3)]) (rest := [.int x, .ref (ad h), .int (nI t3), .ref (ad (kb + 5))]) (c_X2_thingsOf l D cB cI cJ ad n ML3 kb itf (nI t3) h_kb h_kb_1 h_kb_2 ((fL3 kb (by omega)).trans m_kb) ((fL3 (kb + 1) (by omega)).trans m_kb_1) ((fL3 (kb + 2) (by omega)).trans m_kb_2) ) X hK hP hS hl.1 rfl gX2_takeIntoCase_X2_thingsOf yd_X2_thingsOf ⟨Nat.le_of_ble_eq_true rfl, Nat.le_of_ble_eq_true rfl⟩ h_kb ((fL3 kb (by omega)).trans m_kb) (ci := 2) rfl rfl (Nat.le_of_ble_eq_true rfl) ⟨Nat.zero_le _, Nat.zero_le _⟩ dX2_takeIntoCase_20 ?_
        refine q_rdV (As := [.int x, .int (s_X2_thingsOf itf (nI t3))]) (rest := [.int (nI t3), .ref (ad (kb + 5))]) (c_X0_goesWith l D cB cI cJ ad n ML3 h nt hv cf tf x (s_X2_thingsOf itf (nI t3)) h_h h_h_3 h_h_4 h_h_5 h_h_6 ((fL3 h (by omega)).trans m_h) ((fL3 (h + 3) (by omega)).trans m_h_3) ((fL3 (h + 4) (by omega)).trans m_h_4) ((fL3 (h + 5) (by omega)).trans m_h_5) ((fL3 (h + 6) (by omega)).trans m_h_6) h7 hnt) X hK hP hS hl.1 rfl gX2_takeIntoCase_X0_goesWith yd_X0_goesWith ⟨Nat.le_of_ble_eq_true rfl, Nat.le_of_ble_eq_true rfl⟩ h_h ((fL3 h (by omega)).trans m_h) (ci := 0) rfl rfl (Nat.le_of_ble_eq_true rfl) ⟨Nat.zero_le _, Nat.zero_le _⟩ dX2_takeIntoCase_23 ?_
        refine lv_if_eq (tgt := 33) hx hb dX2_takeIntoCase_26 (by decide) (fun c_26 => ?_) (fun c_26 => ?_)
        · skip
          refine lv_iconst (v := 0) hx hb dX2_takeIntoCase_33 (by decide) ?_
          refine q_wrVv (As := [.int (nI t3), .int 0]) (rest := []) (c_X8_set l D cB cI cJ ad n ML3 hI (kb + 5) (kb + 6) 256 1 y3_0 (nI t3) 0 h_kb_5 h_kb_6 ((fL3 (kb + 5) (by omega)).trans m_kb_5) mL3_0 (by decide)) X hK hP hS hl.1 rfl gX2_takeIntoCase_X8_set yd_X8_set ⟨Nat.le_of_ble_eq_true rfl, Nat.le_of_ble_eq_true rfl⟩ h_kb_5 ((fL3 (kb + 5) (by omega)).trans m_kb_5) (ci := 8) rfl rfl (Nat.le_of_ble_eq_true rfl) ⟨Nat.zero_le _, Nat.zero_le _⟩ dX2_takeIntoCase_34 (fun M2 H locs hp1 hP hS => ?_)
          obtain ⟨g4, fr5⟩ := hp1
          refine lv_iinc (v := ((nI t3) + 1)) (lv' := [(4, .int ((nI t3) + 1)), (0, .ref (ad kb)), (1, .ref (ad h)), (2, .int x), (3, .int al)]) hx hb dX2_takeIntoCase_37 hl (k := 0) rfl rfl (by decide) rfl (fun ls hl => ?_)
          refine lv_goto (tgt := 3) hx hb dX2_takeIntoCase_40 (by decide) ?_
          exact ih_3 (t3 + 1) (tset 256 y3_0 (nI t3) 0) (by omega) (by omega) (by rw [s_X2_takeIntoCase_3, ← e_y3_0, s_X2_takeIntoCase_3s, if_pos c_26]) _ _ _ g4 (fun q n0 => ((fr5 q n0).trans (fL3 q n0))) hP hS ls (by rw [(show nI (t3 + 1) = nI t3 + 1 by exact nI_succ _)]; exact lv_sub hl [0, 1, 2, 3, 4] rfl)
        · skip
          refine lv_iconst (v := 1) hx hb dX2_takeIntoCase_29 (by decide) ?_
          refine lv_goto (tgt := 34) hx hb dX2_takeIntoCase_30 (by decide) ?_
          refine q_wrVv (As := [.int (nI t3), .int 1]) (rest := []) (c_X8_set l D cB cI cJ ad n ML3 hI (kb + 5) (kb + 6) 256 1 y3_0 (nI t3) 1 h_kb_5 h_kb_6 ((fL3 (kb + 5) (by omega)).trans m_kb_5) mL3_0 (by decide)) X hK hP hS hl.1 rfl gX2_takeIntoCase_X8_set yd_X8_set ⟨Nat.le_of_ble_eq_true rfl, Nat.le_of_ble_eq_true rfl⟩ h_kb_5 ((fL3 (kb + 5) (by omega)).trans m_kb_5) (ci := 8) rfl rfl (Nat.le_of_ble_eq_true rfl) ⟨Nat.zero_le _, Nat.zero_le _⟩ dX2_takeIntoCase_34 (fun M7 H locs hp6 hP hS => ?_)
          obtain ⟨g9, fr10⟩ := hp6
          refine lv_iinc (v := ((nI t3) + 1)) (lv' := [(4, .int ((nI t3) + 1)), (0, .ref (ad kb)), (1, .ref (ad h)), (2, .int x), (3, .int al)]) hx hb dX2_takeIntoCase_37 hl (k := 0) rfl rfl (by decide) rfl (fun ls hl => ?_)
          refine lv_goto (tgt := 3) hx hb dX2_takeIntoCase_40 (by decide) ?_
          exact ih_3 (t3 + 1) (tset 256 y3_0 (nI t3) 1) (by omega) (by omega) (by rw [s_X2_takeIntoCase_3, ← e_y3_0, s_X2_takeIntoCase_3s, if_neg c_26]) _ _ _ g9 (fun q n0 => ((fr10 q n0).trans (fL3 q n0))) hP hS ls (by rw [(show nI (t3 + 1) = nI t3 + 1 by exact nI_succ _)]; exact lv_sub hl [0, 1, 2, 3, 4] rfl)
  exact loop_3 ((al.toNatClampNeg + 1) + 1) 0 tkf (by omega) (by omega) (by rfl) _ _ _ m_kb_6 (fun q n0 => rfl) hP hS ls (lv_sub hl [0, 1, 2, 3, 4] rfl)
set_option maxRecDepth 20000 in
theorem nX2_takeOnPerson_37 : ∀ w ∈ u_ws RX7 TX7 3, w ∈ wsX2_takeOnPerson := by decide +kernel
set_option maxRecDepth 20000 in
theorem fX2_takeOnPerson_108 : FL wsX2_takeOnPerson RX2 108 0 0 := ⟨RX0, TX0, 12, rfl, by decide +kernel, by decide, by decide +kernel⟩
theorem yd_X7_heatOn : YD yX7_heatOn 1 := ⟨by decide +kernel, by decide +kernel, by decide +kernel⟩
set_option maxRecDepth 20000 in
theorem fX2_takeOnPerson_23 : FL wsX2_takeOnPerson RX2 23 2 2 := ⟨RX2, TX2, 3, rfl, by decide +kernel, by decide, by decide +kernel⟩
def s_X2_takeOnPerson_33s (nt : Nat) (pf : Nat → Int32) (tf : Nat → Int32) (plf : Nat → Int32) (itf : Nat → Int32) (x : Int32) (t33 : Nat) (y33_0 : Nat → Int32) : (Nat → Int32) := if ((s_X2_thingsOf itf (nI t33)) &&& ((okS tf 1 nt) ^^^ (-1))) = 0 then if ((tat 12 pf (x * 3 + 2)) - (heS nt tf plf x)) < (smS tf (s_X2_thingsOf itf (nI t33)) 6 nt) then (tset 256 y33_0 (nI t33) 0) else (tset 256 y33_0 (nI t33) 1) else (tset 256 y33_0 (nI t33) 0)
def s_X2_takeOnPerson_33 (nt : Nat) (pf : Nat → Int32) (tf : Nat → Int32) (plf : Nat → Int32) (itf : Nat → Int32) (x : Int32) (z0 : Nat → Int32) : Nat → (Nat → Int32)
  | 0 => z0
  | t + 1 => s_X2_takeOnPerson_33s nt pf tf plf itf x t (s_X2_takeOnPerson_33 nt pf tf plf itf x z0 t)
set_option maxHeartbeats 4000000 in
set_option maxRecDepth 100000 in
theorem c_X2_takeOnPerson (l : Launch) (D : va_G) (cB cI cJ : ClassId) (ad : Nat → Nat) (n : Nat) (M : Nat → va_E) (hI : ipI ad n) (kb g h nt : Nat) (op : Int32) (hv pf tf plf itf tkf : Nat → Int32) (x al : Int32) (h_kb : kb < n) (h_kb_1 : kb + 1 < n) (h_kb_2 : kb + 2 < n) (h_kb_5 : kb + 5 < n) (h_kb_6 : kb + 6 < n) (h_g : g < n) (h_g_1 : g + 1 < n) (h_g_2 : g + 2 < n) (h_h : h < n) (h_h_5 : h + 5 < n) (h_h_6 : h + 6 < n) (h_h_1 : h + 1 < n) (h_h_2 : h + 2 < n) (m_kb : M kb = .inr (2, packF ad kb)) (m_kb_1 : M (kb + 1) = .inr (8, [.int 1, .ref (ad (kb + 2))])) (m_kb_2 : M (kb + 2) = .inl (cI, 8, .inl itf)) (m_kb_5 : M (kb + 5) = .inr (8, [.int 1, .ref (ad (kb + 6))])) (m_kb_6 : M (kb + 6) = .inl (cI, 256, .inl tkf)) (m_g : M g = .inr (7, standF ad g h op)) (m_g_1 : M (g + 1) = .inr (8, [.int 1, .ref (ad (g + 2))])) (m_g_2 : M (g + 2) = .inl (cI, 12, .inl plf)) (m_h : M h = .inr (0, hallF ad h hv)) (m_h_5 : M (h + 5) = .inr (8, [.int 7, .ref (ad (h + 6))])) (m_h_6 : M (h + 6) = .inl (cI, 84, .inl tf)) (m_h_1 : M (h + 1) = .inr (8, [.int 3, .ref (ad (h + 2))])) (m_h_2 : M (h + 2) = .inl (cI, 12, .inl pf)) (h7 : hv 7 = nI nt) (hnt : nt ≤ 12) (hal : al = nI al.toNatClampNeg) (hna : al.toNatClampNeg ≤ 255) (hkh : kb + 6 < h ∨ h + 15 < kb) (hkg : kb + 6 < g ∨ g + 2 < kb) : cWv l D cB cI cJ ad n M yX2_takeOnPerson wsX2_takeOnPerson 3 68 [.ref (ad kb), .ref (ad g), .int x, .int al] (fun M' => M' (kb + 6) = .inl (cI, 256, .inl (s_X2_takeOnPerson_33 nt pf tf plf itf x tkf (al.toNatClampNeg + 1))) ∧ ∀ q : Nat, q ≠ kb + 6 → M' q = M q) := by
  refine q_body (cc := cX2_takeOnPerson) (maxL := 9) (ret := none) (by decide) rfl (Nat.le_of_ble_eq_true rfl) ?_
  intro p e s m args below meth c ls X hr hlocks hK hP hl
  obtain ⟨hx, hb, hml, hown, hts⟩ := id X
  have hS : va_S (ipA ad n) s.heap s.heap [] := va_S.rf
  have hl : lv_has ls 9 [(0, .ref (ad kb)), (1, .ref (ad g)), (2, .int x), (3, .int al)] := hl
  refine lv_aload_n hx hb dX2_takeOnPerson_0 rfl (lv_at hl 1 rfl) ?_
  refine q_getN (v := .ref (ad h)) (fs := standF ad g h op) (T := TX7) (k := 0) (C := RX7) (N := 3) (ci := 7) X hK hP hK.1.2.1 rfl nX2_takeOnPerson_37 (by decide) h_g m_g rfl dX2_takeOnPerson_1 ?_
  refine q_get (v := .ref (ad (h + 1))) (fs := hallF ad h hv) X hK hP fX2_takeOnPerson_108 h_h m_h rfl dX2_takeOnPerson_4 ?_
  refine lv_iload_n hx hb dX2_takeOnPerson_7 rfl (lv_at hl 2 rfl) ?_
  refine lv_iconst (v := 2) hx hb dX2_takeOnPerson_8 (by decide) ?_
  refine q_rdV (As := [.int x, .int 2]) (rest := []) (c_X8_at_ l D cB cI cJ ad n M (h + 1) (h + 2) 12 3 pf x 2 h_h_1 h_h_2 m_h_1 m_h_2 (by decide)) X hK hP hS hl.1 rfl gX2_takeOnPerson_X8_at_ yd_X8_at_ ⟨Nat.le_of_ble_eq_true rfl, Nat.le_of_ble_eq_true rfl⟩ h_h_1 m_h_1 (ci := 8) rfl rfl (Nat.le_of_ble_eq_true rfl) ⟨Nat.zero_le _, Nat.zero_le _⟩ dX2_takeOnPerson_9 ?_
  refine lv_aload_n hx hb dX2_takeOnPerson_12 rfl (lv_at hl 1 rfl) ?_
  refine lv_iload_n hx hb dX2_takeOnPerson_13 rfl (lv_at hl 2 rfl) ?_
  refine q_rdV (As := [.int x]) (rest := [.int (tat 12 pf (x * 3 + 2))]) (c_X7_heatOn l D cB cI cJ ad n M g h nt op hv tf plf x h_g h_g_1 h_g_2 h_h h_h_5 h_h_6 m_g m_g_1 m_g_2 m_h m_h_5 m_h_6 h7 hnt) X hK hP hS hl.1 rfl gX2_takeOnPerson_X7_heatOn yd_X7_heatOn ⟨Nat.le_of_ble_eq_true rfl, Nat.le_of_ble_eq_true rfl⟩ h_g m_g (ci := 7) rfl rfl (Nat.le_of_ble_eq_true rfl) ⟨Nat.zero_le _, Nat.zero_le _⟩ dX2_takeOnPerson_14 ?_
  refine lv_isub hx hb dX2_takeOnPerson_17 ?_
  refine lv_istore (lv' := [(4, .int ((tat 12 pf (x * 3 + 2)) - (heS nt tf plf x))), (0, .ref (ad kb)), (1, .ref (ad g)), (2, .int x), (3, .int al)]) hx hb dX2_takeOnPerson_18 hl (by decide) rfl (fun ls hl => ?_)
  refine lv_aload_n hx hb dX2_takeOnPerson_20 rfl (lv_at hl 2 rfl) ?_
  refine q_getN (v := .ref (ad h)) (fs := standF ad g h op) (T := TX7) (k := 0) (C := RX7) (N := 3) (ci := 7) X hK hP hK.1.2.1 rfl nX2_takeOnPerson_37 (by decide) h_g m_g rfl dX2_takeOnPerson_21 ?_
  refine lv_iconst (v := 1) hx hb dX2_takeOnPerson_24 (by decide) ?_
  refine q_rdV (As := [.int 1]) (rest := []) (c_X0_ofKind l D cB cI cJ ad n M h nt hv tf 1 h_h h_h_5 h_h_6 m_h m_h_5 m_h_6 h7 hnt) X hK hP hS hl.1 rfl gX2_takeOnPerson_X0_ofKind yd_X0_ofKind ⟨Nat.le_of_ble_eq_true rfl, Nat.le_of_ble_eq_true rfl⟩ h_h m_h (ci := 0) rfl rfl (Nat.le_of_ble_eq_true rfl) ⟨Nat.zero_le _, Nat.zero_le _⟩ dX2_takeOnPerson_25 ?_
  refine lv_istore (lv' := [(5, .int (okS tf 1 nt)), (4, .int ((tat 12 pf (x * 3 + 2)) - (heS nt tf plf x))), (0, .ref (ad kb)), (1, .ref (ad g)), (2, .int x), (3, .int al)]) hx hb dX2_takeOnPerson_28 hl (by decide) rfl (fun ls hl => ?_)
  refine lv_iconst (v := 0) hx hb dX2_takeOnPerson_30 (by decide) ?_
  refine lv_istore (lv' := [(6, .int 0), (5, .int (okS tf 1 nt)), (4, .int ((tat 12 pf (x * 3 + 2)) - (heS nt tf plf x))), (0, .ref (ad kb)), (1, .ref (ad g)), (2, .int x), (3, .int al)]) hx hb dX2_takeOnPerson_31 hl (by decide) rfl (fun ls hl => ?_)
  have loop_33 : ∀ (fuel : Nat) (t33 : Nat) (y33_0 : Nat → Int32), (al.toNatClampNeg + 1) - (t33) < fuel → t33 ≤ (al.toNatClampNeg + 1) → y33_0 = (s_X2_takeOnPerson_33 nt pf tf plf itf x tkf t33) → ∀ (ML33 : Nat → va_E) (H : Heap) (locs : List Loc), ML33 (kb + 6) = .inl (cI, 256, .inl y33_0) → (∀ q : Nat, q ≠ kb + 6 → ML33 q = M q) → va_P D vwCl (ip ad n ML33) H → va_S (ipA ad n) s.heap H locs → ∀ (ls : Array Slot), lv_has ls 9 [(6, .int (nI t33)), (5, .int (okS tf 1 nt)), (4, .int ((tat 12 pf (x * 3 + 2)) - (heS nt tf plf x))), (0, .ref (ad kb)), (1, .ref (ad g)), (2, .int x), (3, .int al)] → W p l e (rmOf 3 68) s m args below meth c H locs 0 0 (MQ below (va_Qv (fun M' => M' (kb + 6) = .inl (cI, 256, .inl (s_X2_takeOnPerson_33 nt pf tf plf itf x tkf (al.toNatClampNeg + 1))) ∧ ∀ q : Nat, q ≠ kb + 6 → M' q = M q) (fun M' t => va_P D vwCl (ip ad n M') t.heap) (ipA ad n)) args s 0 0 (ipA ad n)) (F0 m 33 ls []) := by
    intro fuel
    induction fuel with
    | zero =>
      intro t33 y33_0 hz
      exact absurd hz (Nat.not_lt_zero _)
    | succ fuel ih_33 =>
      intro t33 y33_0 hz_33 h_t33 e_y33_0 ML33 H locs mL33_0 fL33 hP hS ls hl
      skip
      refine lv_iload hx hb dX2_takeOnPerson_33 (lv_at hl 0 rfl) ?_
      refine lv_iload_n hx hb dX2_takeOnPerson_35 rfl (lv_at hl 6 rfl) ?_
      refine lv_icmp_gt (tgt := 105) hx hb dX2_takeOnPerson_36 (by decide) (fun c_36 => ?_) (fun c_36 => ?_)
      · rw [hal] at c_36
        have h9_33 : t33 = al.toNatClampNeg + 1 := eq_of_lt (t := t33) (k := al.toNatClampNeg) c_36 (by omega) h_t33
        subst h9_33
        subst e_y33_0
        exact q_wvret X hr hlocks hP hS ⟨mL33_0, (fun q n0 => (fL33 q n0))⟩ dX2_takeOnPerson_105
      · rw [hal] at c_36
        have h9_33 : t33 < al.toNatClampNeg + 1 := le_of_nlt (t := t33) (k := al.toNatClampNeg) c_36 (by omega) h_t33
        refine lv_aload_n hx hb dX2_takeOnPerson_39 rfl (lv_at hl 3 rfl) ?_
        refine lv_iload hx hb dX2_takeOnPerson_40 (lv_at hl 0 rfl) ?_
        refine q_rdV (As := [.int (nI t33)]) (rest := []) (c_X2_thingsOf l D cB cI cJ ad n ML33 kb itf (nI t33) h_kb h_kb_1 h_kb_2 ((fL33 kb (by omega)).trans m_kb) ((fL33 (kb + 1) (by omega)).trans m_kb_1) ((fL33 (kb + 2) (by omega)).trans m_kb_2) ) X hK hP hS hl.1 rfl gX2_takeOnPerson_X2_thingsOf yd_X2_thingsOf ⟨Nat.le_of_ble_eq_true rfl, Nat.le_of_ble_eq_true rfl⟩ h_kb ((fL33 kb (by omega)).trans m_kb) (ci := 2) rfl rfl (Nat.le_of_ble_eq_true rfl) ⟨Nat.zero_le _, Nat.zero_le _⟩ dX2_takeOnPerson_42 ?_
        refine lv_istore (lv' := [(7, .int (s_X2_thingsOf itf (nI t33))), (6, .int (nI t33)), (5, .int (okS tf 1 nt)), (4, .int ((tat 12 pf (x * 3 + 2)) - (heS nt tf plf x))), (0, .ref (ad kb)), (1, .ref (ad g)), (2, .int x), (3, .int al)]) hx hb dX2_takeOnPerson_45 hl (by decide) rfl (fun ls hl => ?_)
        refine lv_iload hx hb dX2_takeOnPerson_47 (lv_at hl 0 rfl) ?_
        refine lv_iload hx hb dX2_takeOnPerson_49 (lv_at hl 2 rfl) ?_
        refine lv_iconst (v := (-1)) hx hb dX2_takeOnPerson_51 (by decide) ?_
        refine lv_ixor hx hb dX2_takeOnPerson_52 ?_
        refine lv_iand hx hb dX2_takeOnPerson_53 ?_
        refine lv_if_ne (tgt := 77) hx hb dX2_takeOnPerson_54 (by decide) (fun c_54 => ?_) (fun c_54 => ?_)
        · skip
          refine lv_iconst (v := 0) hx hb dX2_takeOnPerson_77 (by decide) ?_
          refine lv_istore (lv' := [(8, .int 0), (7, .int (s_X2_thingsOf itf (nI t33))), (6, .int (nI t33)), (5, .int (okS tf 1 nt)), (4, .int ((tat 12 pf (x * 3 + 2)) - (heS nt tf plf x))), (0, .ref (ad kb)), (1, .ref (ad g)), (2, .int x), (3, .int al)]) hx hb dX2_takeOnPerson_78 hl (by decide) rfl (fun ls hl => ?_)
          refine lv_aload_n hx hb dX2_takeOnPerson_80 rfl (lv_at hl 5 rfl) ?_
          refine q_get (v := .ref (ad (kb + 5))) (fs := packF ad kb) X hK hP fX2_takeOnPerson_23 h_kb ((fL33 kb (by omega)).trans m_kb) rfl dX2_takeOnPerson_81 ?_
          refine lv_iload hx hb dX2_takeOnPerson_84 (lv_at hl 2 rfl) ?_
          refine lv_iload hx hb dX2_takeOnPerson_86 (lv_at hl 0 rfl) ?_
          refine lv_if_eq (tgt := 95) hx hb dX2_takeOnPerson_88 (by decide) (fun c_88 => ?_) (fun c_88 => ?_)
          · clear c_88
            refine lv_iconst (v := 0) hx hb dX2_takeOnPerson_95 (by decide) ?_
            refine q_wrVv (As := [.int (nI t33), .int 0]) (rest := []) (c_X8_set l D cB cI cJ ad n ML33 hI (kb + 5) (kb + 6) 256 1 y33_0 (nI t33) 0 h_kb_5 h_kb_6 ((fL33 (kb + 5) (by omega)).trans m_kb_5) mL33_0 (by decide)) X hK hP hS hl.1 rfl gX2_takeOnPerson_X8_set yd_X8_set ⟨Nat.le_of_ble_eq_true rfl, Nat.le_of_ble_eq_true rfl⟩ h_kb_5 ((fL33 (kb + 5) (by omega)).trans m_kb_5) (ci := 8) rfl rfl (Nat.le_of_ble_eq_true rfl) ⟨Nat.zero_le _, Nat.zero_le _⟩ dX2_takeOnPerson_96 (fun M2 H locs hp1 hP hS => ?_)
            obtain ⟨g4, fr5⟩ := hp1
            refine lv_iinc (v := ((nI t33) + 1)) (lv' := [(6, .int ((nI t33) + 1)), (8, .int 0), (7, .int (s_X2_thingsOf itf (nI t33))), (5, .int (okS tf 1 nt)), (4, .int ((tat 12 pf (x * 3 + 2)) - (heS nt tf plf x))), (0, .ref (ad kb)), (1, .ref (ad g)), (2, .int x), (3, .int al)]) hx hb dX2_takeOnPerson_99 hl (k := 2) rfl rfl (by decide) rfl (fun ls hl => ?_)
            refine lv_goto (tgt := 33) hx hb dX2_takeOnPerson_102 (by decide) ?_
            exact ih_33 (t33 + 1) (tset 256 y33_0 (nI t33) 0) (by omega) (by omega) (by rw [s_X2_takeOnPerson_33, ← e_y33_0, s_X2_takeOnPerson_33s, if_neg c_54]) _ _ _ g4 (fun q n0 => ((fr5 q n0).trans (fL33 q n0))) hP hS ls (by rw [(show nI (t33 + 1) = nI t33 + 1 by exact nI_succ _)]; exact lv_sub hl [0, 3, 4, 5, 6, 7, 8] rfl)
          · exact absurd c_88 (by decide)
        · skip
          refine lv_aload_n hx hb dX2_takeOnPerson_57 rfl (lv_at hl 5 rfl) ?_
          refine q_getN (v := .ref (ad h)) (fs := standF ad g h op) (T := TX7) (k := 0) (C := RX7) (N := 3) (ci := 7) X hK hP hK.1.2.1 rfl nX2_takeOnPerson_37 (by decide) h_g ((fL33 g (by omega)).trans m_g) rfl dX2_takeOnPerson_58 ?_
          refine lv_iload hx hb dX2_takeOnPerson_61 (lv_at hl 0 rfl) ?_
          refine lv_bipush (v := 6) hx hb dX2_takeOnPerson_63 (by decide) ?_
          refine q_rdV (As := [.int (s_X2_thingsOf itf (nI t33)), .int 6]) (rest := []) (c_X0_sumOf l D cB cI cJ ad n ML33 h nt hv tf (s_X2_thingsOf itf (nI t33)) 6 h_h h_h_5 h_h_6 ((fL33 h (by omega)).trans m_h) ((fL33 (h + 5) (by omega)).trans m_h_5) ((fL33 (h + 6) (by omega)).trans m_h_6) h7 hnt) X hK hP hS hl.1 rfl gX2_takeOnPerson_X0_sumOf yd_X0_sumOf ⟨Nat.le_of_ble_eq_true rfl, Nat.le_of_ble_eq_true rfl⟩ h_h ((fL33 h (by omega)).trans m_h) (ci := 0) rfl rfl (Nat.le_of_ble_eq_true rfl) ⟨Nat.zero_le _, Nat.zero_le _⟩ dX2_takeOnPerson_65 ?_
          refine lv_iload hx hb dX2_takeOnPerson_68 (lv_at hl 3 rfl) ?_
          refine lv_icmp_gt (tgt := 77) hx hb dX2_takeOnPerson_70 (by decide) (fun c_70 => ?_) (fun c_70 => ?_)
          · skip
            refine lv_iconst (v := 0) hx hb dX2_takeOnPerson_77 (by decide) ?_
            refine lv_istore (lv' := [(8, .int 0), (7, .int (s_X2_thingsOf itf (nI t33))), (6, .int (nI t33)), (5, .int (okS tf 1 nt)), (4, .int ((tat 12 pf (x * 3 + 2)) - (heS nt tf plf x))), (0, .ref (ad kb)), (1, .ref (ad g)), (2, .int x), (3, .int al)]) hx hb dX2_takeOnPerson_78 hl (by decide) rfl (fun ls hl => ?_)
            refine lv_aload_n hx hb dX2_takeOnPerson_80 rfl (lv_at hl 5 rfl) ?_
            refine q_get (v := .ref (ad (kb + 5))) (fs := packF ad kb) X hK hP fX2_takeOnPerson_23 h_kb ((fL33 kb (by omega)).trans m_kb) rfl dX2_takeOnPerson_81 ?_
            refine lv_iload hx hb dX2_takeOnPerson_84 (lv_at hl 2 rfl) ?_
            refine lv_iload hx hb dX2_takeOnPerson_86 (lv_at hl 0 rfl) ?_
            refine lv_if_eq (tgt := 95) hx hb dX2_takeOnPerson_88 (by decide) (fun c_88 => ?_) (fun c_88 => ?_)
            · clear c_88
              refine lv_iconst (v := 0) hx hb dX2_takeOnPerson_95 (by decide) ?_
              refine q_wrVv (As := [.int (nI t33), .int 0]) (rest := []) (c_X8_set l D cB cI cJ ad n ML33 hI (kb + 5) (kb + 6) 256 1 y33_0 (nI t33) 0 h_kb_5 h_kb_6 ((fL33 (kb + 5) (by omega)).trans m_kb_5) mL33_0 (by decide)) X hK hP hS hl.1 rfl gX2_takeOnPerson_X8_set yd_X8_set ⟨Nat.le_of_ble_eq_true rfl, Nat.le_of_ble_eq_true rfl⟩ h_kb_5 ((fL33 (kb + 5) (by omega)).trans m_kb_5) (ci := 8) rfl rfl (Nat.le_of_ble_eq_true rfl) ⟨Nat.zero_le _, Nat.zero_le _⟩ dX2_takeOnPerson_96 (fun M7 H locs hp6 hP hS => ?_)
              obtain ⟨g9, fr10⟩ := hp6
              refine lv_iinc (v := ((nI t33) + 1)) (lv' := [(6, .int ((nI t33) + 1)), (8, .int 0), (7, .int (s_X2_thingsOf itf (nI t33))), (5, .int (okS tf 1 nt)), (4, .int ((tat 12 pf (x * 3 + 2)) - (heS nt tf plf x))), (0, .ref (ad kb)), (1, .ref (ad g)), (2, .int x), (3, .int al)]) hx hb dX2_takeOnPerson_99 hl (k := 2) rfl rfl (by decide) rfl (fun ls hl => ?_)
              refine lv_goto (tgt := 33) hx hb dX2_takeOnPerson_102 (by decide) ?_
              exact ih_33 (t33 + 1) (tset 256 y33_0 (nI t33) 0) (by omega) (by omega) (by rw [s_X2_takeOnPerson_33, ← e_y33_0, s_X2_takeOnPerson_33s, if_pos c_54, if_pos c_70]) _ _ _ g9 (fun q n0 => ((fr10 q n0).trans (fL33 q n0))) hP hS ls (by rw [(show nI (t33 + 1) = nI t33 + 1 by exact nI_succ _)]; exact lv_sub hl [0, 3, 4, 5, 6, 7, 8] rfl)
            · exact absurd c_88 (by decide)
          · skip
            refine lv_iconst (v := 1) hx hb dX2_takeOnPerson_73 (by decide) ?_
            refine lv_goto (tgt := 78) hx hb dX2_takeOnPerson_74 (by decide) ?_
            refine lv_istore (lv' := [(8, .int 1), (7, .int (s_X2_thingsOf itf (nI t33))), (6, .int (nI t33)), (5, .int (okS tf 1 nt)), (4, .int ((tat 12 pf (x * 3 + 2)) - (heS nt tf plf x))), (0, .ref (ad kb)), (1, .ref (ad g)), (2, .int x), (3, .int al)]) hx hb dX2_takeOnPerson_78 hl (by decide) rfl (fun ls hl => ?_)
            refine lv_aload_n hx hb dX2_takeOnPerson_80 rfl (lv_at hl 5 rfl) ?_
            refine q_get (v := .ref (ad (kb + 5))) (fs := packF ad kb) X hK hP fX2_takeOnPerson_23 h_kb ((fL33 kb (by omega)).trans m_kb) rfl dX2_takeOnPerson_81 ?_
            refine lv_iload hx hb dX2_takeOnPerson_84 (lv_at hl 2 rfl) ?_
            refine lv_iload hx hb dX2_takeOnPerson_86 (lv_at hl 0 rfl) ?_
            refine lv_if_eq (tgt := 95) hx hb dX2_takeOnPerson_88 (by decide) (fun c_88 => ?_) (fun c_88 => ?_)
            · exact absurd c_88 (by decide)
            · clear c_88
              refine lv_iconst (v := 1) hx hb dX2_takeOnPerson_91 (by decide) ?_
              refine lv_goto (tgt := 96) hx hb dX2_takeOnPerson_92 (by decide) ?_
              refine q_wrVv (As := [.int (nI t33), .int 1]) (rest := []) (c_X8_set l D cB cI cJ ad n ML33 hI (kb + 5) (kb + 6) 256 1 y33_0 (nI t33) 1 h_kb_5 h_kb_6 ((fL33 (kb + 5) (by omega)).trans m_kb_5) mL33_0 (by decide)) X hK hP hS hl.1 rfl gX2_takeOnPerson_X8_set yd_X8_set ⟨Nat.le_of_ble_eq_true rfl, Nat.le_of_ble_eq_true rfl⟩ h_kb_5 ((fL33 (kb + 5) (by omega)).trans m_kb_5) (ci := 8) rfl rfl (Nat.le_of_ble_eq_true rfl) ⟨Nat.zero_le _, Nat.zero_le _⟩ dX2_takeOnPerson_96 (fun M12 H locs hp11 hP hS => ?_)
              obtain ⟨g14, fr15⟩ := hp11
              refine lv_iinc (v := ((nI t33) + 1)) (lv' := [(6, .int ((nI t33) + 1)), (8, .int 1), (7, .int (s_X2_thingsOf itf (nI t33))), (5, .int (okS tf 1 nt)), (4, .int ((tat 12 pf (x * 3 + 2)) - (heS nt tf plf x))), (0, .ref (ad kb)), (1, .ref (ad g)), (2, .int x), (3, .int al)]) hx hb dX2_takeOnPerson_99 hl (k := 2) rfl rfl (by decide) rfl (fun ls hl => ?_)
              refine lv_goto (tgt := 33) hx hb dX2_takeOnPerson_102 (by decide) ?_
              exact ih_33 (t33 + 1) (tset 256 y33_0 (nI t33) 1) (by omega) (by omega) (by rw [s_X2_takeOnPerson_33, ← e_y33_0, s_X2_takeOnPerson_33s, if_pos c_54, if_neg c_70]) _ _ _ g14 (fun q n0 => ((fr15 q n0).trans (fL33 q n0))) hP hS ls (by rw [(show nI (t33 + 1) = nI t33 + 1 by exact nI_succ _)]; exact lv_sub hl [0, 3, 4, 5, 6, 7, 8] rfl)
  exact loop_33 ((al.toNatClampNeg + 1) + 1) 0 tkf (by omega) (by omega) (by rfl) _ _ _ m_kb_6 (fun q n0 => rfl) hP hS ls (lv_sub hl [0, 1, 2, 3, 4, 5, 6] rfl)
set_option maxRecDepth 20000 in
theorem nX2_fewestBetween_37 : ∀ w ∈ u_ws RX7 TX7 3, w ∈ wsX2_fewestBetween := by decide +kernel
def s_X2_fewestBetween_20s (nt : Nat) (cf : Nat → Int32) (tf : Nat → Int32) (plf : Nat → Int32) (x : Int32) (y : Int32) (t20 : Nat) (x20_6 : Int32) : Int32 := if ((nI t20) &&& (((taS plf x nt) ||| (taS plf y nt)) ^^^ (-1))) = 0 then if x20_6 = (-1) then if (gwS nt cf tf x ((taS plf x nt) ^^^ (nI t20))) = 0 then x20_6 else if (gwS nt cf tf y ((taS plf y nt) ^^^ (nI t20))) = 0 then x20_6 else (nI t20) else if (bcI x20_6) ≤ (bcI (nI t20)) then x20_6 else if (gwS nt cf tf x ((taS plf x nt) ^^^ (nI t20))) = 0 then x20_6 else if (gwS nt cf tf y ((taS plf y nt) ^^^ (nI t20))) = 0 then x20_6 else (nI t20) else if x20_6 = (-1) then x20_6 else if (bcI x20_6) ≤ (bcI (nI t20)) then x20_6 else x20_6
def s_X2_fewestBetween_20 (nt : Nat) (cf : Nat → Int32) (tf : Nat → Int32) (plf : Nat → Int32) (x : Int32) (y : Int32) (z0 : Int32) : Nat → Int32
  | 0 => z0
  | t + 1 => s_X2_fewestBetween_20s nt cf tf plf x y t (s_X2_fewestBetween_20 nt cf tf plf x y z0 t)
def s_X2_fewestBetween (nt : Nat) (cf : Nat → Int32) (tf : Nat → Int32) (plf : Nat → Int32) (x : Int32) (y : Int32) : Int32 := (s_X2_fewestBetween_20 nt cf tf plf x y (-1) 4096)
set_option maxHeartbeats 4000000 in
set_option maxRecDepth 100000 in
theorem c_X2_fewestBetween (l : Launch) (D : va_G) (cB cI cJ : ClassId) (ad : Nat → Nat) (n : Nat) (M : Nat → va_E) (kb g h nt : Nat) (op : Int32) (hv cf tf plf : Nat → Int32) (x y : Int32) (h_kb : kb < n) (h_g : g < n) (h_g_1 : g + 1 < n) (h_g_2 : g + 2 < n) (h_h : h < n) (h_h_5 : h + 5 < n) (h_h_6 : h + 6 < n) (h_h_3 : h + 3 < n) (h_h_4 : h + 4 < n) (m_kb : M kb = .inr (2, packF ad kb)) (m_g : M g = .inr (7, standF ad g h op)) (m_g_1 : M (g + 1) = .inr (8, [.int 1, .ref (ad (g + 2))])) (m_g_2 : M (g + 2) = .inl (cI, 12, .inl plf)) (m_h : M h = .inr (0, hallF ad h hv)) (m_h_5 : M (h + 5) = .inr (8, [.int 7, .ref (ad (h + 6))])) (m_h_6 : M (h + 6) = .inl (cI, 84, .inl tf)) (m_h_3 : M (h + 3) = .inr (8, [.int 5, .ref (ad (h + 4))])) (m_h_4 : M (h + 4) = .inl (cI, 25, .inl cf)) (h7 : hv 7 = nI nt) (hnt : nt ≤ 12) : cR l D cB cI cJ ad n M yX2_fewestBetween wsX2_fewestBetween 3 69 [.ref (ad kb), .ref (ad g), .int x, .int y] (s_X2_fewestBetween nt cf tf plf x y) := by
  refine q_body (cc := cX2_fewestBetween) (maxL := 10) (ret := (some .int)) (by decide) rfl (Nat.le_of_ble_eq_true rfl) ?_
  intro p e s m args below meth c ls X hr hlocks hK hP hl
  obtain ⟨hx, hb, hml, hown, hts⟩ := id X
  have hS : va_S (ipA ad n) s.heap s.heap [] := va_S.rf
  have hl : lv_has ls 10 [(0, .ref (ad kb)), (1, .ref (ad g)), (2, .int x), (3, .int y)] := hl
  refine lv_aload_n hx hb dX2_fewestBetween_0 rfl (lv_at hl 1 rfl) ?_
  refine lv_iload_n hx hb dX2_fewestBetween_1 rfl (lv_at hl 2 rfl) ?_
  refine q_rdV (As := [.int x]) (rest := []) (c_X7_thingsAt l D cB cI cJ ad n M g h nt op hv plf x h_g h_g_1 h_g_2 h_h m_g m_g_1 m_g_2 m_h h7 hnt) X hK hP hS hl.1 rfl gX2_fewestBetween_X7_thingsAt yd_X7_thingsAt ⟨Nat.le_of_ble_eq_true rfl, Nat.le_of_ble_eq_true rfl⟩ h_g m_g (ci := 7) rfl rfl (Nat.le_of_ble_eq_true rfl) ⟨Nat.zero_le _, Nat.zero_le _⟩ dX2_fewestBetween_2 ?_
  refine lv_istore (lv' := [(4, .int (taS plf x nt)), (0, .ref (ad kb)), (1, .ref (ad g)), (2, .int x), (3, .int y)]) hx hb dX2_fewestBetween_5 hl (by decide) rfl (fun ls hl => ?_)
  refine lv_aload_n hx hb dX2_fewestBetween_7 rfl (lv_at hl 2 rfl) ?_
  refine lv_iload_n hx hb dX2_fewestBetween_8 rfl (lv_at hl 4 rfl) ?_
  refine q_rdV (As := [.int y]) (rest := []) (c_X7_thingsAt l D cB cI cJ ad n M g h nt op hv plf y h_g h_g_1 h_g_2 h_h m_g m_g_1 m_g_2 m_h h7 hnt) X hK hP hS hl.1 rfl gX2_fewestBetween_X7_thingsAt yd_X7_thingsAt ⟨Nat.le_of_ble_eq_true rfl, Nat.le_of_ble_eq_true rfl⟩ h_g m_g (ci := 7) rfl rfl (Nat.le_of_ble_eq_true rfl) ⟨Nat.zero_le _, Nat.zero_le _⟩ dX2_fewestBetween_9 ?_
  refine lv_istore (lv' := [(5, .int (taS plf y nt)), (4, .int (taS plf x nt)), (0, .ref (ad kb)), (1, .ref (ad g)), (2, .int x), (3, .int y)]) hx hb dX2_fewestBetween_12 hl (by decide) rfl (fun ls hl => ?_)
  refine lv_iconst (v := (-1)) hx hb dX2_fewestBetween_14 (by decide) ?_
  refine lv_istore (lv' := [(6, .int (-1)), (5, .int (taS plf y nt)), (4, .int (taS plf x nt)), (0, .ref (ad kb)), (1, .ref (ad g)), (2, .int x), (3, .int y)]) hx hb dX2_fewestBetween_15 hl (by decide) rfl (fun ls hl => ?_)
  refine lv_iconst (v := 0) hx hb dX2_fewestBetween_17 (by decide) ?_
  refine lv_istore (lv' := [(7, .int 0), (6, .int (-1)), (5, .int (taS plf y nt)), (4, .int (taS plf x nt)), (0, .ref (ad kb)), (1, .ref (ad g)), (2, .int x), (3, .int y)]) hx hb dX2_fewestBetween_18 hl (by decide) rfl (fun ls hl => ?_)
  have loop_20 : ∀ (fuel : Nat) (t20 : Nat) (x20_6 : Int32), 4096 - (t20) < fuel → t20 ≤ 4096 → x20_6 = (s_X2_fewestBetween_20 nt cf tf plf x y (-1) t20) → ∀ (ls : Array Slot), lv_has ls 10 [(7, .int (nI t20)), (6, .int x20_6), (5, .int (taS plf y nt)), (4, .int (taS plf x nt)), (0, .ref (ad kb)), (1, .ref (ad g)), (2, .int x), (3, .int y)] → W p l e (rmOf 3 69) s m args below meth c s.heap [] 0 0 (MQ below (vp_Si (fun r9 => r9 = s_X2_fewestBetween nt cf tf plf x y)) args s 0 0 (fun _ => False)) (F0 m 20 ls []) := by
    intro fuel
    induction fuel with
    | zero =>
      intro t20 x20_6 hz
      exact absurd hz (Nat.not_lt_zero _)
    | succ fuel ih_20 =>
      intro t20 x20_6 hz_20 h_t20 e_x20_6 ls hl
      skip
      refine lv_iload hx hb dX2_fewestBetween_20 (lv_at hl 0 rfl) ?_
      refine lv_sipush (v := 4096) hx hb dX2_fewestBetween_22 (by decide) ?_
      refine lv_icmp_ge (tgt := 126) hx hb dX2_fewestBetween_25 (by decide) (fun c_25 => ?_) (fun c_25 => ?_)
      · skip
        have h9_20 : t20 = 4096 := eq_of_le (t := t20) (k := 4096) c_25 (by omega) h_t20
        subst h9_20
        subst e_x20_6
        refine lv_iload hx hb dX2_fewestBetween_126 (lv_at hl 1 rfl) ?_
        exact q_iret hb hx hr hlocks (by rfl) dX2_fewestBetween_128
      · skip
        have h9_20 : t20 < 4096 := lt_of_nlt (t := t20) (k := 4096) c_25 (by omega) h_t20
        refine lv_iload hx hb dX2_fewestBetween_28 (lv_at hl 0 rfl) ?_
        refine lv_iload hx hb dX2_fewestBetween_30 (lv_at hl 3 rfl) ?_
        refine lv_iload hx hb dX2_fewestBetween_32 (lv_at hl 2 rfl) ?_
        refine lv_ior hx hb dX2_fewestBetween_34 ?_
        refine lv_iconst (v := (-1)) hx hb dX2_fewestBetween_35 (by decide) ?_
        refine lv_ixor hx hb dX2_fewestBetween_36 ?_
        refine lv_iand hx hb dX2_fewestBetween_37 ?_
        refine lv_if_ne (tgt := 45) hx hb dX2_fewestBetween_38 (by decide) (fun c_38 => ?_) (fun c_38 => ?_)
        · skip
          refine lv_iconst (v := 0) hx hb dX2_fewestBetween_45 (by decide) ?_
          refine lv_istore (lv' := [(8, .int 0), (7, .int (nI t20)), (6, .int x20_6), (5, .int (taS plf y nt)), (4, .int (taS plf x nt)), (0, .ref (ad kb)), (1, .ref (ad g)), (2, .int x), (3, .int y)]) hx hb dX2_fewestBetween_46 hl (by decide) rfl (fun ls hl => ?_)
          refine lv_iload hx hb dX2_fewestBetween_48 (lv_at hl 2 rfl) ?_
          refine lv_iconst (v := (-1)) hx hb dX2_fewestBetween_50 (by decide) ?_
          refine lv_icmp_eq (tgt := 67) hx hb dX2_fewestBetween_51 (by decide) (fun c_51 => ?_) (fun c_51 => ?_)
          · skip
            refine lv_iconst (v := 1) hx hb dX2_fewestBetween_67 (by decide) ?_
            refine lv_goto (tgt := 72) hx hb dX2_fewestBetween_68 (by decide) ?_
            refine lv_istore (lv' := [(9, .int 1), (8, .int 0), (7, .int (nI t20)), (6, .int x20_6), (5, .int (taS plf y nt)), (4, .int (taS plf x nt)), (0, .ref (ad kb)), (1, .ref (ad g)), (2, .int x), (3, .int y)]) hx hb dX2_fewestBetween_72 hl (by decide) rfl (fun ls hl => ?_)
            refine lv_iload hx hb dX2_fewestBetween_74 (lv_at hl 1 rfl) ?_
            refine lv_if_eq (tgt := 120) hx hb dX2_fewestBetween_76 (by decide) (fun c_76 => ?_) (fun c_76 => ?_)
            · clear c_76
              refine lv_iinc (v := ((nI t20) + 1)) (lv' := [(7, .int ((nI t20) + 1)), (9, .int 1), (8, .int 0), (6, .int x20_6), (5, .int (taS plf y nt)), (4, .int (taS plf x nt)), (0, .ref (ad kb)), (1, .ref (ad g)), (2, .int x), (3, .int y)]) hx hb dX2_fewestBetween_120 hl (k := 2) rfl rfl (by decide) rfl (fun ls hl => ?_)
              refine lv_goto (tgt := 20) hx hb dX2_fewestBetween_123 (by decide) ?_
              exact ih_20 (t20 + 1) x20_6 (by omega) (by omega) (by rw [s_X2_fewestBetween_20, ← e_x20_6, s_X2_fewestBetween_20s, if_neg c_38, if_pos c_51]) ls (by rw [(show nI (t20 + 1) = nI t20 + 1 by exact nI_succ _)]; exact lv_sub hl [0, 3, 4, 5, 6, 7, 8, 9] rfl)
            · exact absurd c_76 (by decide)
          · skip
            refine lv_iload hx hb dX2_fewestBetween_54 (lv_at hl 1 rfl) ?_
            refine q_rdS (As := [.int (nI t20)]) (rest := []) (c_J6_bitCount_0f7a4 l D cB cI cJ ad n M (nI t20)   ) X hK hP hS hl.1 rfl gX2_fewestBetween_J6_bitCount_0f7a4 yd_J6_bitCount_0f7a4 ⟨Nat.le_of_ble_eq_true rfl, Nat.le_of_ble_eq_true rfl⟩ rfl (Nat.le_of_ble_eq_true rfl) ⟨Nat.zero_le _, Nat.zero_le _⟩ dX2_fewestBetween_56 ?_
            refine lv_iload hx hb dX2_fewestBetween_59 (lv_at hl 2 rfl) ?_
            refine q_rdS (As := [.int x20_6]) (rest := [.int (bcI (nI t20))]) (c_J6_bitCount_0f7a4 l D cB cI cJ ad n M x20_6   ) X hK hP hS hl.1 rfl gX2_fewestBetween_J6_bitCount_0f7a4 yd_J6_bitCount_0f7a4 ⟨Nat.le_of_ble_eq_true rfl, Nat.le_of_ble_eq_true rfl⟩ rfl (Nat.le_of_ble_eq_true rfl) ⟨Nat.zero_le _, Nat.zero_le _⟩ dX2_fewestBetween_61 ?_
            refine lv_icmp_ge (tgt := 71) hx hb dX2_fewestBetween_64 (by decide) (fun c_64 => ?_) (fun c_64 => ?_)
            · skip
              refine lv_iconst (v := 0) hx hb dX2_fewestBetween_71 (by decide) ?_
              refine lv_istore (lv' := [(9, .int 0), (8, .int 0), (7, .int (nI t20)), (6, .int x20_6), (5, .int (taS plf y nt)), (4, .int (taS plf x nt)), (0, .ref (ad kb)), (1, .ref (ad g)), (2, .int x), (3, .int y)]) hx hb dX2_fewestBetween_72 hl (by decide) rfl (fun ls hl => ?_)
              refine lv_iload hx hb dX2_fewestBetween_74 (lv_at hl 1 rfl) ?_
              refine lv_if_eq (tgt := 120) hx hb dX2_fewestBetween_76 (by decide) (fun c_76 => ?_) (fun c_76 => ?_)
              · clear c_76
                refine lv_iinc (v := ((nI t20) + 1)) (lv' := [(7, .int ((nI t20) + 1)), (9, .int 0), (8, .int 0), (6, .int x20_6), (5, .int (taS plf y nt)), (4, .int (taS plf x nt)), (0, .ref (ad kb)), (1, .ref (ad g)), (2, .int x), (3, .int y)]) hx hb dX2_fewestBetween_120 hl (k := 2) rfl rfl (by decide) rfl (fun ls hl => ?_)
                refine lv_goto (tgt := 20) hx hb dX2_fewestBetween_123 (by decide) ?_
                exact ih_20 (t20 + 1) x20_6 (by omega) (by omega) (by rw [s_X2_fewestBetween_20, ← e_x20_6, s_X2_fewestBetween_20s, if_neg c_38, if_neg c_51, if_pos c_64]) ls (by rw [(show nI (t20 + 1) = nI t20 + 1 by exact nI_succ _)]; exact lv_sub hl [0, 3, 4, 5, 6, 7, 8, 9] rfl)
              · exact absurd c_76 (by decide)
            · skip
              refine lv_iconst (v := 1) hx hb dX2_fewestBetween_67 (by decide) ?_
              refine lv_goto (tgt := 72) hx hb dX2_fewestBetween_68 (by decide) ?_
              refine lv_istore (lv' := [(9, .int 1), (8, .int 0), (7, .int (nI t20)), (6, .int x20_6), (5, .int (taS plf y nt)), (4, .int (taS plf x nt)), (0, .ref (ad kb)), (1, .ref (ad g)), (2, .int x), (3, .int y)]) hx hb dX2_fewestBetween_72 hl (by decide) rfl (fun ls hl => ?_)
              refine lv_iload hx hb dX2_fewestBetween_74 (lv_at hl 1 rfl) ?_
              refine lv_if_eq (tgt := 120) hx hb dX2_fewestBetween_76 (by decide) (fun c_76 => ?_) (fun c_76 => ?_)
              · clear c_76
                refine lv_iinc (v := ((nI t20) + 1)) (lv' := [(7, .int ((nI t20) + 1)), (9, .int 1), (8, .int 0), (6, .int x20_6), (5, .int (taS plf y nt)), (4, .int (taS plf x nt)), (0, .ref (ad kb)), (1, .ref (ad g)), (2, .int x), (3, .int y)]) hx hb dX2_fewestBetween_120 hl (k := 2) rfl rfl (by decide) rfl (fun ls hl => ?_)
                refine lv_goto (tgt := 20) hx hb dX2_fewestBetween_123 (by decide) ?_
                exact ih_20 (t20 + 1) x20_6 (by omega) (by omega) (by rw [s_X2_fewestBetween_20, ← e_x20_6, s_X2_fewestBetween_20s, if_neg c_38, if_neg c_51, if_neg c_64]) ls (by rw [(show nI (t20 + 1) = nI t20 + 1 by exact nI_succ _)]; exact lv_sub hl [0, 3, 4, 5, 6, 7, 8, 9] rfl)
              · exact absurd c_76 (by decide)
        · skip
          refine lv_iconst (v := 1) hx hb dX2_fewestBetween_41 (by decide) ?_
          refine lv_goto (tgt := 46) hx hb dX2_fewestBetween_42 (by decide) ?_
          refine lv_istore (lv' := [(8, .int 1), (7, .int (nI t20)), (6, .int x20_6), (5, .int (taS plf y nt)), (4, .int (taS plf x nt)), (0, .ref (ad kb)), (1, .ref (ad g)), (2, .int x), (3, .int y)]) hx hb dX2_fewestBetween_46 hl (by decide) rfl (fun ls hl => ?_)
          refine lv_iload hx hb dX2_fewestBetween_48 (lv_at hl 2 rfl) ?_
          refine lv_iconst (v := (-1)) hx hb dX2_fewestBetween_50 (by decide) ?_
          refine lv_icmp_eq (tgt := 67) hx hb dX2_fewestBetween_51 (by decide) (fun c_51 => ?_) (fun c_51 => ?_)
          · skip
            refine lv_iconst (v := 1) hx hb dX2_fewestBetween_67 (by decide) ?_
            refine lv_goto (tgt := 72) hx hb dX2_fewestBetween_68 (by decide) ?_
            refine lv_istore (lv' := [(9, .int 1), (8, .int 1), (7, .int (nI t20)), (6, .int x20_6), (5, .int (taS plf y nt)), (4, .int (taS plf x nt)), (0, .ref (ad kb)), (1, .ref (ad g)), (2, .int x), (3, .int y)]) hx hb dX2_fewestBetween_72 hl (by decide) rfl (fun ls hl => ?_)
            refine lv_iload hx hb dX2_fewestBetween_74 (lv_at hl 1 rfl) ?_
            refine lv_if_eq (tgt := 120) hx hb dX2_fewestBetween_76 (by decide) (fun c_76 => ?_) (fun c_76 => ?_)
            · exact absurd c_76 (by decide)
            · clear c_76
              refine lv_iload hx hb dX2_fewestBetween_79 (lv_at hl 0 rfl) ?_
              refine lv_if_eq (tgt := 120) hx hb dX2_fewestBetween_81 (by decide) (fun c_81 => ?_) (fun c_81 => ?_)
              · exact absurd c_81 (by decide)
              · clear c_81
                refine lv_aload_n hx hb dX2_fewestBetween_84 rfl (lv_at hl 7 rfl) ?_
                refine q_getN (v := .ref (ad h)) (fs := standF ad g h op) (T := TX7) (k := 0) (C := RX7) (N := 3) (ci := 7) X hK hP hK.1.2.1 rfl nX2_fewestBetween_37 (by decide) h_g m_g rfl dX2_fewestBetween_85 ?_
                refine lv_iload_n hx hb dX2_fewestBetween_88 rfl (lv_at hl 8 rfl) ?_
                refine lv_iload hx hb dX2_fewestBetween_89 (lv_at hl 5 rfl) ?_
                refine lv_iload hx hb dX2_fewestBetween_91 (lv_at hl 2 rfl) ?_
                refine lv_ixor hx hb dX2_fewestBetween_93 ?_
                refine q_rdV (As := [.int x, .int ((taS plf x nt) ^^^ (nI t20))]) (rest := []) (c_X0_goesWith l D cB cI cJ ad n M h nt hv cf tf x ((taS plf x nt) ^^^ (nI t20)) h_h h_h_3 h_h_4 h_h_5 h_h_6 m_h m_h_3 m_h_4 m_h_5 m_h_6 h7 hnt) X hK hP hS hl.1 rfl gX2_fewestBetween_X0_goesWith yd_X0_goesWith ⟨Nat.le_of_ble_eq_true rfl, Nat.le_of_ble_eq_true rfl⟩ h_h m_h (ci := 0) rfl rfl (Nat.le_of_ble_eq_true rfl) ⟨Nat.zero_le _, Nat.zero_le _⟩ dX2_fewestBetween_94 ?_
                refine lv_if_eq (tgt := 120) hx hb dX2_fewestBetween_97 (by decide) (fun c_97 => ?_) (fun c_97 => ?_)
                · skip
                  refine lv_iinc (v := ((nI t20) + 1)) (lv' := [(7, .int ((nI t20) + 1)), (9, .int 1), (8, .int 1), (6, .int x20_6), (5, .int (taS plf y nt)), (4, .int (taS plf x nt)), (0, .ref (ad kb)), (1, .ref (ad g)), (2, .int x), (3, .int y)]) hx hb dX2_fewestBetween_120 hl (k := 2) rfl rfl (by decide) rfl (fun ls hl => ?_)
                  refine lv_goto (tgt := 20) hx hb dX2_fewestBetween_123 (by decide) ?_
                  exact ih_20 (t20 + 1) x20_6 (by omega) (by omega) (by rw [s_X2_fewestBetween_20, ← e_x20_6, s_X2_fewestBetween_20s, if_pos c_38, if_pos c_51, if_pos c_97]) ls (by rw [(show nI (t20 + 1) = nI t20 + 1 by exact nI_succ _)]; exact lv_sub hl [0, 3, 4, 5, 6, 7, 8, 9] rfl)
                · skip
                  refine lv_aload_n hx hb dX2_fewestBetween_100 rfl (lv_at hl 7 rfl) ?_
                  refine q_getN (v := .ref (ad h)) (fs := standF ad g h op) (T := TX7) (k := 0) (C := RX7) (N := 3) (ci := 7) X hK hP hK.1.2.1 rfl nX2_fewestBetween_37 (by decide) h_g m_g rfl dX2_fewestBetween_101 ?_
                  refine lv_iload_n hx hb dX2_fewestBetween_104 rfl (lv_at hl 9 rfl) ?_
                  refine lv_iload hx hb dX2_fewestBetween_105 (lv_at hl 4 rfl) ?_
                  refine lv_iload hx hb dX2_fewestBetween_107 (lv_at hl 2 rfl) ?_
                  refine lv_ixor hx hb dX2_fewestBetween_109 ?_
                  refine q_rdV (As := [.int y, .int ((taS plf y nt) ^^^ (nI t20))]) (rest := []) (c_X0_goesWith l D cB cI cJ ad n M h nt hv cf tf y ((taS plf y nt) ^^^ (nI t20)) h_h h_h_3 h_h_4 h_h_5 h_h_6 m_h m_h_3 m_h_4 m_h_5 m_h_6 h7 hnt) X hK hP hS hl.1 rfl gX2_fewestBetween_X0_goesWith yd_X0_goesWith ⟨Nat.le_of_ble_eq_true rfl, Nat.le_of_ble_eq_true rfl⟩ h_h m_h (ci := 0) rfl rfl (Nat.le_of_ble_eq_true rfl) ⟨Nat.zero_le _, Nat.zero_le _⟩ dX2_fewestBetween_110 ?_
                  refine lv_if_eq (tgt := 120) hx hb dX2_fewestBetween_113 (by decide) (fun c_113 => ?_) (fun c_113 => ?_)
                  · skip
                    refine lv_iinc (v := ((nI t20) + 1)) (lv' := [(7, .int ((nI t20) + 1)), (9, .int 1), (8, .int 1), (6, .int x20_6), (5, .int (taS plf y nt)), (4, .int (taS plf x nt)), (0, .ref (ad kb)), (1, .ref (ad g)), (2, .int x), (3, .int y)]) hx hb dX2_fewestBetween_120 hl (k := 2) rfl rfl (by decide) rfl (fun ls hl => ?_)
                    refine lv_goto (tgt := 20) hx hb dX2_fewestBetween_123 (by decide) ?_
                    exact ih_20 (t20 + 1) x20_6 (by omega) (by omega) (by rw [s_X2_fewestBetween_20, ← e_x20_6, s_X2_fewestBetween_20s, if_pos c_38, if_pos c_51, if_neg c_97, if_pos c_113]) ls (by rw [(show nI (t20 + 1) = nI t20 + 1 by exact nI_succ _)]; exact lv_sub hl [0, 3, 4, 5, 6, 7, 8, 9] rfl)
                  · skip
                    refine lv_iload hx hb dX2_fewestBetween_116 (lv_at hl 2 rfl) ?_
                    refine lv_istore (lv' := [(6, .int (nI t20)), (9, .int 1), (8, .int 1), (7, .int (nI t20)), (5, .int (taS plf y nt)), (4, .int (taS plf x nt)), (0, .ref (ad kb)), (1, .ref (ad g)), (2, .int x), (3, .int y)]) hx hb dX2_fewestBetween_118 hl (by decide) rfl (fun ls hl => ?_)
                    refine lv_iinc (v := ((nI t20) + 1)) (lv' := [(7, .int ((nI t20) + 1)), (6, .int (nI t20)), (9, .int 1), (8, .int 1), (5, .int (taS plf y nt)), (4, .int (taS plf x nt)), (0, .ref (ad kb)), (1, .ref (ad g)), (2, .int x), (3, .int y)]) hx hb dX2_fewestBetween_120 hl (k := 3) rfl rfl (by decide) rfl (fun ls hl => ?_)
                    refine lv_goto (tgt := 20) hx hb dX2_fewestBetween_123 (by decide) ?_
                    exact ih_20 (t20 + 1) (nI t20) (by omega) (by omega) (by rw [s_X2_fewestBetween_20, ← e_x20_6, s_X2_fewestBetween_20s, if_pos c_38, if_pos c_51, if_neg c_97, if_neg c_113]) ls (by rw [(show nI (t20 + 1) = nI t20 + 1 by exact nI_succ _)]; exact lv_sub hl [0, 1, 4, 5, 6, 7, 8, 9] rfl)
          · skip
            refine lv_iload hx hb dX2_fewestBetween_54 (lv_at hl 1 rfl) ?_
            refine q_rdS (As := [.int (nI t20)]) (rest := []) (c_J6_bitCount_0f7a4 l D cB cI cJ ad n M (nI t20)   ) X hK hP hS hl.1 rfl gX2_fewestBetween_J6_bitCount_0f7a4 yd_J6_bitCount_0f7a4 ⟨Nat.le_of_ble_eq_true rfl, Nat.le_of_ble_eq_true rfl⟩ rfl (Nat.le_of_ble_eq_true rfl) ⟨Nat.zero_le _, Nat.zero_le _⟩ dX2_fewestBetween_56 ?_
            refine lv_iload hx hb dX2_fewestBetween_59 (lv_at hl 2 rfl) ?_
            refine q_rdS (As := [.int x20_6]) (rest := [.int (bcI (nI t20))]) (c_J6_bitCount_0f7a4 l D cB cI cJ ad n M x20_6   ) X hK hP hS hl.1 rfl gX2_fewestBetween_J6_bitCount_0f7a4 yd_J6_bitCount_0f7a4 ⟨Nat.le_of_ble_eq_true rfl, Nat.le_of_ble_eq_true rfl⟩ rfl (Nat.le_of_ble_eq_true rfl) ⟨Nat.zero_le _, Nat.zero_le _⟩ dX2_fewestBetween_61 ?_
            refine lv_icmp_ge (tgt := 71) hx hb dX2_fewestBetween_64 (by decide) (fun c_64 => ?_) (fun c_64 => ?_)
            · skip
              refine lv_iconst (v := 0) hx hb dX2_fewestBetween_71 (by decide) ?_
              refine lv_istore (lv' := [(9, .int 0), (8, .int 1), (7, .int (nI t20)), (6, .int x20_6), (5, .int (taS plf y nt)), (4, .int (taS plf x nt)), (0, .ref (ad kb)), (1, .ref (ad g)), (2, .int x), (3, .int y)]) hx hb dX2_fewestBetween_72 hl (by decide) rfl (fun ls hl => ?_)
              refine lv_iload hx hb dX2_fewestBetween_74 (lv_at hl 1 rfl) ?_
              refine lv_if_eq (tgt := 120) hx hb dX2_fewestBetween_76 (by decide) (fun c_76 => ?_) (fun c_76 => ?_)
              · exact absurd c_76 (by decide)
              · clear c_76
                refine lv_iload hx hb dX2_fewestBetween_79 (lv_at hl 0 rfl) ?_
                refine lv_if_eq (tgt := 120) hx hb dX2_fewestBetween_81 (by decide) (fun c_81 => ?_) (fun c_81 => ?_)
                · clear c_81
                  refine lv_iinc (v := ((nI t20) + 1)) (lv' := [(7, .int ((nI t20) + 1)), (9, .int 0), (8, .int 1), (6, .int x20_6), (5, .int (taS plf y nt)), (4, .int (taS plf x nt)), (0, .ref (ad kb)), (1, .ref (ad g)), (2, .int x), (3, .int y)]) hx hb dX2_fewestBetween_120 hl (k := 2) rfl rfl (by decide) rfl (fun ls hl => ?_)
                  refine lv_goto (tgt := 20) hx hb dX2_fewestBetween_123 (by decide) ?_
                  exact ih_20 (t20 + 1) x20_6 (by omega) (by omega) (by rw [s_X2_fewestBetween_20, ← e_x20_6, s_X2_fewestBetween_20s, if_pos c_38, if_neg c_51, if_pos c_64]) ls (by rw [(show nI (t20 + 1) = nI t20 + 1 by exact nI_succ _)]; exact lv_sub hl [0, 3, 4, 5, 6, 7, 8, 9] rfl)
                · exact absurd c_81 (by decide)
            · skip
              refine lv_iconst (v := 1) hx hb dX2_fewestBetween_67 (by decide) ?_
              refine lv_goto (tgt := 72) hx hb dX2_fewestBetween_68 (by decide) ?_
              refine lv_istore (lv' := [(9, .int 1), (8, .int 1), (7, .int (nI t20)), (6, .int x20_6), (5, .int (taS plf y nt)), (4, .int (taS plf x nt)), (0, .ref (ad kb)), (1, .ref (ad g)), (2, .int x), (3, .int y)]) hx hb dX2_fewestBetween_72 hl (by decide) rfl (fun ls hl => ?_)
              refine lv_iload hx hb dX2_fewestBetween_74 (lv_at hl 1 rfl) ?_
              refine lv_if_eq (tgt := 120) hx hb dX2_fewestBetween_76 (by decide) (fun c_76 => ?_) (fun c_76 => ?_)
              · exact absurd c_76 (by decide)
              · clear c_76
                refine lv_iload hx hb dX2_fewestBetween_79 (lv_at hl 0 rfl) ?_
                refine lv_if_eq (tgt := 120) hx hb dX2_fewestBetween_81 (by decide) (fun c_81 => ?_) (fun c_81 => ?_)
                · exact absurd c_81 (by decide)
                · clear c_81
                  refine lv_aload_n hx hb dX2_fewestBetween_84 rfl (lv_at hl 7 rfl) ?_
                  refine q_getN (v := .ref (ad h)) (fs := standF ad g h op) (T := TX7) (k := 0) (C := RX7) (N := 3) (ci := 7) X hK hP hK.1.2.1 rfl nX2_fewestBetween_37 (by decide) h_g m_g rfl dX2_fewestBetween_85 ?_
                  refine lv_iload_n hx hb dX2_fewestBetween_88 rfl (lv_at hl 8 rfl) ?_
                  refine lv_iload hx hb dX2_fewestBetween_89 (lv_at hl 5 rfl) ?_
                  refine lv_iload hx hb dX2_fewestBetween_91 (lv_at hl 2 rfl) ?_
                  refine lv_ixor hx hb dX2_fewestBetween_93 ?_
                  refine q_rdV (As := [.int x, .int ((taS plf x nt) ^^^ (nI t20))]) (rest := []) (c_X0_goesWith l D cB cI cJ ad n M h nt hv cf tf x ((taS plf x nt) ^^^ (nI t20)) h_h h_h_3 h_h_4 h_h_5 h_h_6 m_h m_h_3 m_h_4 m_h_5 m_h_6 h7 hnt) X hK hP hS hl.1 rfl gX2_fewestBetween_X0_goesWith yd_X0_goesWith ⟨Nat.le_of_ble_eq_true rfl, Nat.le_of_ble_eq_true rfl⟩ h_h m_h (ci := 0) rfl rfl (Nat.le_of_ble_eq_true rfl) ⟨Nat.zero_le _, Nat.zero_le _⟩ dX2_fewestBetween_94 ?_
                  refine lv_if_eq (tgt := 120) hx hb dX2_fewestBetween_97 (by decide) (fun c_97 => ?_) (fun c_97 => ?_)
                  · skip
                    refine lv_iinc (v := ((nI t20) + 1)) (lv' := [(7, .int ((nI t20) + 1)), (9, .int 1), (8, .int 1), (6, .int x20_6), (5, .int (taS plf y nt)), (4, .int (taS plf x nt)), (0, .ref (ad kb)), (1, .ref (ad g)), (2, .int x), (3, .int y)]) hx hb dX2_fewestBetween_120 hl (k := 2) rfl rfl (by decide) rfl (fun ls hl => ?_)
                    refine lv_goto (tgt := 20) hx hb dX2_fewestBetween_123 (by decide) ?_
                    exact ih_20 (t20 + 1) x20_6 (by omega) (by omega) (by rw [s_X2_fewestBetween_20, ← e_x20_6, s_X2_fewestBetween_20s, if_pos c_38, if_neg c_51, if_neg c_64, if_pos c_97]) ls (by rw [(show nI (t20 + 1) = nI t20 + 1 by exact nI_succ _)]; exact lv_sub hl [0, 3, 4, 5, 6, 7, 8, 9] rfl)
                  · skip
                    refine lv_aload_n hx hb dX2_fewestBetween_100 rfl (lv_at hl 7 rfl) ?_
                    refine q_getN (v := .ref (ad h)) (fs := standF ad g h op) (T := TX7) (k := 0) (C := RX7) (N := 3) (ci := 7) X hK hP hK.1.2.1 rfl nX2_fewestBetween_37 (by decide) h_g m_g rfl dX2_fewestBetween_101 ?_
                    refine lv_iload_n hx hb dX2_fewestBetween_104 rfl (lv_at hl 9 rfl) ?_
                    refine lv_iload hx hb dX2_fewestBetween_105 (lv_at hl 4 rfl) ?_
                    refine lv_iload hx hb dX2_fewestBetween_107 (lv_at hl 2 rfl) ?_
                    refine lv_ixor hx hb dX2_fewestBetween_109 ?_
                    refine q_rdV (As := [.int y, .int ((taS plf y nt) ^^^ (nI t20))]) (rest := []) (c_X0_goesWith l D cB cI cJ ad n M h nt hv cf tf y ((taS plf y nt) ^^^ (nI t20)) h_h h_h_3 h_h_4 h_h_5 h_h_6 m_h m_h_3 m_h_4 m_h_5 m_h_6 h7 hnt) X hK hP hS hl.1 rfl gX2_fewestBetween_X0_goesWith yd_X0_goesWith ⟨Nat.le_of_ble_eq_true rfl, Nat.le_of_ble_eq_true rfl⟩ h_h m_h (ci := 0) rfl rfl (Nat.le_of_ble_eq_true rfl) ⟨Nat.zero_le _, Nat.zero_le _⟩ dX2_fewestBetween_110 ?_
                    refine lv_if_eq (tgt := 120) hx hb dX2_fewestBetween_113 (by decide) (fun c_113 => ?_) (fun c_113 => ?_)
                    · skip
                      refine lv_iinc (v := ((nI t20) + 1)) (lv' := [(7, .int ((nI t20) + 1)), (9, .int 1), (8, .int 1), (6, .int x20_6), (5, .int (taS plf y nt)), (4, .int (taS plf x nt)), (0, .ref (ad kb)), (1, .ref (ad g)), (2, .int x), (3, .int y)]) hx hb dX2_fewestBetween_120 hl (k := 2) rfl rfl (by decide) rfl (fun ls hl => ?_)
                      refine lv_goto (tgt := 20) hx hb dX2_fewestBetween_123 (by decide) ?_
                      exact ih_20 (t20 + 1) x20_6 (by omega) (by omega) (by rw [s_X2_fewestBetween_20, ← e_x20_6, s_X2_fewestBetween_20s, if_pos c_38, if_neg c_51, if_neg c_64, if_neg c_97, if_pos c_113]) ls (by rw [(show nI (t20 + 1) = nI t20 + 1 by exact nI_succ _)]; exact lv_sub hl [0, 3, 4, 5, 6, 7, 8, 9] rfl)
                    · skip
                      refine lv_iload hx hb dX2_fewestBetween_116 (lv_at hl 2 rfl) ?_
                      refine lv_istore (lv' := [(6, .int (nI t20)), (9, .int 1), (8, .int 1), (7, .int (nI t20)), (5, .int (taS plf y nt)), (4, .int (taS plf x nt)), (0, .ref (ad kb)), (1, .ref (ad g)), (2, .int x), (3, .int y)]) hx hb dX2_fewestBetween_118 hl (by decide) rfl (fun ls hl => ?_)
                      refine lv_iinc (v := ((nI t20) + 1)) (lv' := [(7, .int ((nI t20) + 1)), (6, .int (nI t20)), (9, .int 1), (8, .int 1), (5, .int (taS plf y nt)), (4, .int (taS plf x nt)), (0, .ref (ad kb)), (1, .ref (ad g)), (2, .int x), (3, .int y)]) hx hb dX2_fewestBetween_120 hl (k := 3) rfl rfl (by decide) rfl (fun ls hl => ?_)
                      refine lv_goto (tgt := 20) hx hb dX2_fewestBetween_123 (by decide) ?_
                      exact ih_20 (t20 + 1) (nI t20) (by omega) (by omega) (by rw [s_X2_fewestBetween_20, ← e_x20_6, s_X2_fewestBetween_20s, if_pos c_38, if_neg c_51, if_neg c_64, if_neg c_97, if_neg c_113]) ls (by rw [(show nI (t20 + 1) = nI t20 + 1 by exact nI_succ _)]; exact lv_sub hl [0, 1, 4, 5, 6, 7, 8, 9] rfl)
  exact loop_20 (4096 + 1) 0 (-1) (by omega) (by omega) (by rfl) ls (lv_sub hl [0, 1, 2, 3, 4, 5, 6, 7] rfl)
