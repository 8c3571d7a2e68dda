/-! PoundsOver$Reader: a line for each kind -/
noncomputable section
set_option maxRecDepth 20000 in
theorem fX4_readLooks_15 : FL wsX4_readLooks RX4 15 4 1 := ⟨RX4, TX4, 3, rfl, by decide +kernel, by decide, by decide +kernel⟩
set_option maxRecDepth 20000 in
theorem fX4_readLooks_160 : FL wsX4_readLooks RX4 160 0 9 := ⟨RX0, TX0, 12, rfl, by decide +kernel, by decide, by decide +kernel⟩
set_option maxRecDepth 20000 in
theorem fX4_readLooks_9 : FL wsX4_readLooks RX4 9 4 0 := ⟨RX4, TX4, 3, rfl, by decide +kernel, by decide, by decide +kernel⟩
set_option maxRecDepth 20000 in
theorem fX4_readLooks_93 : FL wsX4_readLooks RX4 93 9 6 := ⟨RX9, TX9, 8, rfl, by decide +kernel, by decide, by decide +kernel⟩
set_option maxRecDepth 20000 in
theorem fX4_readLooks_164 : FL wsX4_readLooks RX4 164 0 10 := ⟨RX0, TX0, 12, rfl, by decide +kernel, by decide, by decide +kernel⟩
set_option maxRecDepth 20000 in
theorem fX4_readLooks_167 : FL wsX4_readLooks RX4 167 0 11 := ⟨RX0, TX0, 12, rfl, by decide +kernel, by decide, by decide +kernel⟩
def s_X4_readLooks (en : Nat) (x : Nat) (bf : Nat → Int32) (hv : Nat → Int32) : Int32 := if (hv 9) = 0 then if (s_X4_isNumber en (nX en bf x) bf 0 10) = 0 then 0 else if (s_X4_isNumber en (nX en bf (nX en bf x)) bf 0 999) = 0 then 0 else 1 else (0)
def s_X4_readLooks_0_4 (en : Nat) (x : Nat) (bf : Nat → Int32) (hv : Nat → Int32) : Nat := if (hv 9) = 0 then if (s_X4_isNumber en (nX en bf x) bf 0 10) = 0 then (nX en bf x) else if (s_X4_isNumber en (nX en bf (nX en bf x)) bf 0 999) = 0 then (nX en bf (nX en bf x)) else (nX en bf (nX en bf (nX en bf x))) else x
def s_X4_readLooks_1_2 (en : Nat) (x : Nat) (ft : Int32) (bf : Nat → Int32) (hv : Nat → Int32) : Int32 := if (hv 9) = 0 then if (s_X4_isNumber en (nX en bf x) bf 0 10) = 0 then (fkN en bf (nX en bf x)) else if (s_X4_isNumber en (nX en bf (nX en bf x)) bf 0 999) = 0 then (fkN en bf (nX en bf (nX en bf x))) else ft else 5
def s_X4_readLooks_2_1 (en : Nat) (x : Nat) (bf : Nat → Int32) (hv : Nat → Int32) : Nat → Int32 := if (hv 9) = 0 then if (s_X4_isNumber en (nX en bf x) bf 0 10) = 0 then (upd hv 9 1) else if (s_X4_isNumber en (nX en bf (nX en bf x)) bf 0 999) = 0 then (upd (upd hv 9 1) 10 (nmX en bf (nX en bf x))) else (upd (upd (upd hv 9 1) 10 (nmX en bf (nX en bf x))) 11 (nmX en bf (nX en bf (nX en bf x)))) else hv
set_option maxHeartbeats 2000000 in
set_option maxRecDepth 100000 in
theorem c_X4_readLooks (l : Launch) (D : va_G) (cB cI cJ : ClassId) (ad : Nat → Nat) (n : Nat) (M : Nat → va_E) (hI : ipI ad n) (rd ta h en x : Nat) (ln nu ft : Int32) (bf : Nat → Int32) (hv : Nat → Int32) (h_ta : ta < n) (h_ta_1 : ta + 1 < n) (h_rd : rd < n) (h_h : h < n) (m_ta : M ta = .inr (9, tapeX ad ta ln en bf x nu)) (m_ta_1 : M (ta + 1) = .inl (cB, 700, .inl bf)) (m_rd : M rd = .inr (4, [.ref (ad ta), .ref (ad h), .int ft])) (m_h : M h = .inr (0, hallF ad h hv)) (hxe : x ≤ en) (hen : en ≤ 700) (srt : rd < ta ∨ ta + 1 < rd) (srh : rd < h ∨ h + 15 < rd) (sth : ta + 1 < h ∨ h + 15 < ta) : cWi l D cB cI cJ ad n M yX4_readLooks wsX4_readLooks 6 132 [.ref (ad rd)] (fun r M' => ∃ (v0__ : Int32), r = s_X4_readLooks en x bf hv ∧ M' ta = .inr (9, tapeX ad ta ln en bf (s_X4_readLooks_0_4 en x bf hv) v0__) ∧ M' rd = .inr (4, [.ref (ad ta), .ref (ad h), .int (s_X4_readLooks_1_2 en x ft bf hv)]) ∧ M' h = .inr (0, hallF ad h (s_X4_readLooks_2_1 en x bf hv)) ∧ ∀ q : Nat, q ≠ ta → q ≠ rd → q ≠ h → M' q = M q) := by
  refine q_body (cc := cX4_readLooks) (maxL := 1) (ret := (some .boolean)) (by decide) rfl (Nat.le_of_ble_eq_true rfl) ?_
  intro p e s m args below meth c ls X hr hlocks hK hP hl
  obtain ⟨hx, hb, hml, hown, hts⟩ := id X
  have hS : va_S (ipA ad n) s.heap s.heap [] := va_S.rf
  have hl : lv_has ls 1 [(0, .ref (ad rd))] := hl
  refine lv_aload_n hx hb dX4_readLooks_0 rfl (lv_at hl 0 rfl) ?_
  refine q_get (v := .ref (ad h)) (fs := [.ref (ad ta), .ref (ad h), .int ft]) X hK hP fX4_readLooks_15 h_rd m_rd rfl dX4_readLooks_1 ?_
  refine q_get (v := .int (hv 9)) (fs := hallF ad h hv) X hK hP fX4_readLooks_160 h_h m_h rfl dX4_readLooks_4 ?_
  refine lv_if_eq (tgt := 16) hx hb dX4_readLooks_7 (by decide) (fun c_7 => ?_) (fun c_7 => ?_)
  · skip
    refine lv_aload_n hx hb dX4_readLooks_16 rfl (lv_at hl 0 rfl) ?_
    refine q_get (v := .ref (ad h)) (fs := [.ref (ad ta), .ref (ad h), .int ft]) X hK hP fX4_readLooks_15 h_rd m_rd rfl dX4_readLooks_17 ?_
    refine lv_iconst (v := 1) hx hb dX4_readLooks_20 (by decide) ?_
    refine q_put (fs := hallF ad h hv) (fs' := hallF ad h (upd hv 9 1)) X hK hI hP hS fX4_readLooks_160 fw_0_9 h_h m_h rfl rfl (Nat.le_of_ble_eq_true rfl) rfl dX4_readLooks_21 (fun H locs hP hS => ?_)
    refine lv_aload_n hx hb dX4_readLooks_24 rfl (lv_at hl 0 rfl) ?_
    refine q_get (v := .ref (ad ta)) (fs := [.ref (ad ta), .ref (ad h), .int ft]) X hK hP fX4_readLooks_9 h_rd ((va_up_ne M (.inr (0, hallF ad h (upd hv 9 1))) (show rd ≠ h by omega)).trans m_rd) rfl dX4_readLooks_25 ?_
    refine q_wrVv (As := []) (rest := []) (c_X9_adv l D cB cI cJ ad n (va_up M h (.inr (0, hallF ad h (upd hv 9 1)))) hI ta en x ln nu bf h_ta h_ta_1 ((va_up_ne M (.inr (0, hallF ad h (upd hv 9 1))) (show ta ≠ h by omega)).trans m_ta) ((va_up_ne M (.inr (0, hallF ad h (upd hv 9 1))) (show ta + 1 ≠ h by omega)).trans m_ta_1) hxe hen) X hK hP hS hl.1 rfl gX4_readLooks_X9_advance yd_X9_advance ⟨Nat.le_of_ble_eq_true rfl, Nat.le_of_ble_eq_true rfl⟩ h_ta ((va_up_ne M (.inr (0, hallF ad h (upd hv 9 1))) (show ta ≠ h by omega)).trans m_ta) (ci := 9) rfl rfl (Nat.le_of_ble_eq_true rfl) ⟨Nat.zero_le _, Nat.zero_le _⟩ dX4_readLooks_28 (fun M4 H locs hp3 hP hS => ?_)
    obtain ⟨g6, fr7⟩ := hp3
    refine lv_aload_n hx hb dX4_readLooks_31 rfl (lv_at hl 0 rfl) ?_
    refine lv_iconst (v := 0) hx hb dX4_readLooks_32 (by decide) ?_
    refine lv_bipush (v := 10) hx hb dX4_readLooks_33 (by decide) ?_
    refine q_wrVi (As := [.int 0, .int 10]) (rest := []) (c_X4_isNumber l D cB cI cJ ad n M4 hI rd ta h en (nX en bf x) ln (uX en bf x nu) ft bf 0 10 h_ta h_ta_1 h_rd g6 ((fr7 (ta + 1) (by omega)).trans ((va_up_ne M (.inr (0, hallF ad h (upd hv 9 1))) (show ta + 1 ≠ h by omega)).trans m_ta_1)) ((fr7 rd (by omega)).trans ((va_up_ne M (.inr (0, hallF ad h (upd hv 9 1))) (show rd ≠ h by omega)).trans m_rd)) (by first | (apply nX_le <;> (repeat' (first | assumption | apply nX_le))) | assumption | omega | (repeat' (first | assumption | apply nX_le | exact isN_k (by assumption) | exact isT_k (by assumption))) | exact vp_in_nI (by omega) (by decide)) hen srt) X hK hP hS hl.1 rfl gX4_readLooks_X4_isNumber yd_X4_isNumber ⟨Nat.le_of_ble_eq_true rfl, Nat.le_of_ble_eq_true rfl⟩ h_rd ((fr7 rd (by omega)).trans ((va_up_ne M (.inr (0, hallF ad h (upd hv 9 1))) (show rd ≠ h by omega)).trans m_rd)) (ci := 4) rfl rfl (Nat.le_of_ble_eq_true rfl) ⟨Nat.zero_le _, Nat.zero_le _⟩ dX4_readLooks_35 (fun r10 M9 H locs hp8 hP hS => ?_)
    obtain ⟨rfl, g11, fr12⟩ := hp8
    refine lv_if_ne (tgt := 43) hx hb dX4_readLooks_38 (by decide) (fun c_38 => ?_) (fun c_38 => ?_)
    · skip
      have g13 : M9 rd = .inr (4, [.ref (ad ta), .ref (ad h), .int ft]) := by refine g11.trans ?_; simp only [pk0_f c_38]
      refine lv_aload_n hx hb dX4_readLooks_43 rfl (lv_at hl 0 rfl) ?_
      refine q_get (v := .ref (ad h)) (fs := [.ref (ad ta), .ref (ad h), .int ft]) X hK hP fX4_readLooks_15 h_rd g13 rfl dX4_readLooks_44 ?_
      refine lv_aload_n hx hb dX4_readLooks_47 rfl (lv_at hl 0 rfl) ?_
      refine q_get (v := .ref (ad ta)) (fs := [.ref (ad ta), .ref (ad h), .int ft]) X hK hP fX4_readLooks_9 h_rd g13 rfl dX4_readLooks_48 ?_
      refine q_get (v := .int (uX en bf (nX en bf x) (uX en bf x nu))) (fs := tapeX ad ta ln en bf (nX en bf x) (uX en bf x nu)) X hK hP fX4_readLooks_93 h_ta ((fr12 ta (by omega)).trans g6) rfl dX4_readLooks_51 ?_
      refine lv_topi (fun z14 e15 => ?_)
      obtain rfl : z14 = (nmX en bf (nX en bf x)) := e15.trans (uX_num (isN_k c_38) : (uX en bf (nX en bf x) (uX en bf x nu)) = (nmX en bf (nX en bf x)))
      refine q_put (fs := hallF ad h (upd hv 9 1)) (fs' := hallF ad h (upd (upd hv 9 1) 10 (nmX en bf (nX en bf x)))) X hK hI hP hS fX4_readLooks_164 fw_0_10 h_h ((fr12 h (by omega)).trans ((fr7 h (by omega)).trans (va_up_self M h (.inr (0, hallF ad h (upd hv 9 1)))))) rfl rfl (Nat.le_of_ble_eq_true rfl) rfl dX4_readLooks_54 (fun H locs hP hS => ?_)
      refine lv_aload_n hx hb dX4_readLooks_57 rfl (lv_at hl 0 rfl) ?_
      refine q_get (v := .ref (ad ta)) (fs := [.ref (ad ta), .ref (ad h), .int ft]) X hK hP fX4_readLooks_9 h_rd ((va_up_ne M9 (.inr (0, hallF ad h (upd (upd hv 9 1) 10 (nmX en bf (nX en bf x))))) (show rd ≠ h by omega)).trans g13) rfl dX4_readLooks_58 ?_
      refine q_wrVv (As := []) (rest := []) (c_X9_adv l D cB cI cJ ad n (va_up M9 h (.inr (0, hallF ad h (upd (upd hv 9 1) 10 (nmX en bf (nX en bf x)))))) hI ta en (nX en bf x) ln (uX en bf x nu) bf h_ta h_ta_1 ((va_up_ne M9 (.inr (0, hallF ad h (upd (upd hv 9 1) 10 (nmX en bf (nX en bf x))))) (show ta ≠ h by omega)).trans ((fr12 ta (by omega)).trans g6)) ((va_up_ne M9 (.inr (0, hallF ad h (upd (upd hv 9 1) 10 (nmX en bf (nX en bf x))))) (show ta + 1 ≠ h by omega)).trans ((fr12 (ta + 1) (by omega)).trans ((fr7 (ta + 1) (by omega)).trans ((va_up_ne M (.inr (0, hallF ad h (upd hv 9 1))) (show ta + 1 ≠ h by omega)).trans m_ta_1)))) (by first | (apply nX_le <;> (repeat' (first | assumption | apply nX_le))) | assumption | omega | (repeat' (first | assumption | apply nX_le | exact isN_k (by assumption) | exact isT_k (by assumption))) | exact vp_in_nI (by omega) (by decide)) hen) X hK hP hS hl.1 rfl gX4_readLooks_X9_advance yd_X9_advance ⟨Nat.le_of_ble_eq_true rfl, Nat.le_of_ble_eq_true rfl⟩ h_ta ((va_up_ne M9 (.inr (0, hallF ad h (upd (upd hv 9 1) 10 (nmX en bf (nX en bf x))))) (show ta ≠ h by omega)).trans ((fr12 ta (by omega)).trans g6)) (ci := 9) rfl rfl (Nat.le_of_ble_eq_true rfl) ⟨Nat.zero_le _, Nat.zero_le _⟩ dX4_readLooks_61 (fun M19 H locs hp18 hP hS => ?_)
      obtain ⟨g21, fr22⟩ := hp18
      refine lv_aload_n hx hb dX4_readLooks_64 rfl (lv_at hl 0 rfl) ?_
      refine lv_iconst (v := 0) hx hb dX4_readLooks_65 (by decide) ?_
      refine lv_sipush (v := 999) hx hb dX4_readLooks_66 (by decide) ?_
      refine q_wrVi (As := [.int 0, .int 999]) (rest := []) (c_X4_isNumber l D cB cI cJ ad n M19 hI rd ta h en (nX en bf (nX en bf x)) ln (uX en bf (nX en bf x) (uX en bf x nu)) ft bf 0 999 h_ta h_ta_1 h_rd g21 ((fr22 (ta + 1) (by omega)).trans ((va_up_ne M9 (.inr (0, hallF ad h (upd (upd hv 9 1) 10 (nmX en bf (nX en bf x))))) (show ta + 1 ≠ h by omega)).trans ((fr12 (ta + 1) (by omega)).trans ((fr7 (ta + 1) (by omega)).trans ((va_up_ne M (.inr (0, hallF ad h (upd hv 9 1))) (show ta + 1 ≠ h by omega)).trans m_ta_1))))) ((fr22 rd (by omega)).trans ((va_up_ne M9 (.inr (0, hallF ad h (upd (upd hv 9 1) 10 (nmX en bf (nX en bf x))))) (show rd ≠ h by omega)).trans g13)) (by first | (apply nX_le <;> (repeat' (first | assumption | apply nX_le))) | assumption | omega | (repeat' (first | assumption | apply nX_le | exact isN_k (by assumption) | exact isT_k (by assumption))) | exact vp_in_nI (by omega) (by decide)) hen srt) X hK hP hS hl.1 rfl gX4_readLooks_X4_isNumber yd_X4_isNumber ⟨Nat.le_of_ble_eq_true rfl, Nat.le_of_ble_eq_true rfl⟩ h_rd ((fr22 rd (by omega)).trans ((va_up_ne M9 (.inr (0, hallF ad h (upd (upd hv 9 1) 10 (nmX en bf (nX en bf x))))) (show rd ≠ h by omega)).trans g13)) (ci := 4) rfl rfl (Nat.le_of_ble_eq_true rfl) ⟨Nat.zero_le _, Nat.zero_le _⟩ dX4_readLooks_69 (fun r25 M24 H locs hp23 hP hS => ?_)
      obtain ⟨rfl, g26, fr27⟩ := hp23
      refine lv_if_ne (tgt := 77) hx hb dX4_readLooks_72 (by decide) (fun c_72 => ?_) (fun c_72 => ?_)
      · skip
        have g28 : M24 rd = .inr (4, [.ref (ad ta), .ref (ad h), .int ft]) := by refine g26.trans ?_; simp only [pk0_f c_72]
        refine lv_aload_n hx hb dX4_readLooks_77 rfl (lv_at hl 0 rfl) ?_
        refine q_get (v := .ref (ad h)) (fs := [.ref (ad ta), .ref (ad h), .int ft]) X hK hP fX4_readLooks_15 h_rd g28 rfl dX4_readLooks_78 ?_
        refine lv_aload_n hx hb dX4_readLooks_81 rfl (lv_at hl 0 rfl) ?_
        refine q_get (v := .ref (ad ta)) (fs := [.ref (ad ta), .ref (ad h), .int ft]) X hK hP fX4_readLooks_9 h_rd g28 rfl dX4_readLooks_82 ?_
        refine q_get (v := .int (uX en bf (nX en bf (nX en bf x)) (uX en bf (nX en bf x) (uX en bf x nu)))) (fs := tapeX ad ta ln en bf (nX en bf (nX en bf x)) (uX en bf (nX en bf x) (uX en bf x nu))) X hK hP fX4_readLooks_93 h_ta ((fr27 ta (by omega)).trans g21) rfl dX4_readLooks_85 ?_
        refine lv_topi (fun z29 e30 => ?_)
        obtain rfl : z29 = (nmX en bf (nX en bf (nX en bf x))) := e30.trans (uX_num (isN_k c_72) : (uX en bf (nX en bf (nX en bf x)) (uX en bf (nX en bf x) (uX en bf x nu))) = (nmX en bf (nX en bf (nX en bf x))))
        refine q_put (fs := hallF ad h (upd (upd hv 9 1) 10 (nmX en bf (nX en bf x)))) (fs' := hallF ad h (upd (upd (upd hv 9 1) 10 (nmX en bf (nX en bf x))) 11 (nmX en bf (nX en bf (nX en bf x))))) X hK hI hP hS fX4_readLooks_167 fw_0_11 h_h ((fr27 h (by omega)).trans ((fr22 h (by omega)).trans (va_up_self M9 h (.inr (0, hallF ad h (upd (upd hv 9 1) 10 (nmX en bf (nX en bf x)))))))) rfl rfl (Nat.le_of_ble_eq_true rfl) rfl dX4_readLooks_88 (fun H locs hP hS => ?_)
        refine lv_aload_n hx hb dX4_readLooks_91 rfl (lv_at hl 0 rfl) ?_
        refine q_get (v := .ref (ad ta)) (fs := [.ref (ad ta), .ref (ad h), .int ft]) X hK hP fX4_readLooks_9 h_rd ((va_up_ne M24 (.inr (0, hallF ad h (upd (upd (upd hv 9 1) 10 (nmX en bf (nX en bf x))) 11 (nmX en bf (nX en bf (nX en bf x)))))) (show rd ≠ h by omega)).trans g28) rfl dX4_readLooks_92 ?_
        refine q_wrVv (As := []) (rest := []) (c_X9_adv l D cB cI cJ ad n (va_up M24 h (.inr (0, hallF ad h (upd (upd (upd hv 9 1) 10 (nmX en bf (nX en bf x))) 11 (nmX en bf (nX en bf (nX en bf x))))))) hI ta en (nX en bf (nX en bf x)) ln (uX en bf (nX en bf x) (uX en bf x nu)) bf h_ta h_ta_1 ((va_up_ne M24 (.inr (0, hallF ad h (upd (upd (upd hv 9 1) 10 (nmX en bf (nX en bf x))) 11 (nmX en bf (nX en bf (nX en bf x)))))) (show ta ≠ h by omega)).trans ((fr27 ta (by omega)).trans g21)) ((va_up_ne M24 (.inr (0, hallF ad h (upd (upd (upd hv 9 1) 10 (nmX en bf (nX en bf x))) 11 (nmX en bf (nX en bf (nX en bf x)))))) (show ta + 1 ≠ h by omega)).trans ((fr27 (ta + 1) (by omega)).trans ((fr22 (ta + 1) (by omega)).trans ((va_up_ne M9 (.inr (0, hallF ad h (upd (upd hv 9 1) 10 (nmX en bf (nX en bf x))))) (show ta + 1 ≠ h by omega)).trans ((fr12 (ta + 1) (by omega)).trans ((fr7 (ta + 1) (by omega)).trans ((va_up_ne M (.inr (0, hallF ad h (upd hv 9 1))) (show ta + 1 ≠ h by omega)).trans m_ta_1))))))) (by first | (apply nX_le <;> (repeat' (first | assumption | apply nX_le))) | assumption | omega | (repeat' (first | assumption | apply nX_le | exact isN_k (by assumption) | exact isT_k (by assumption))) | exact vp_in_nI (by omega) (by decide)) hen) X hK hP hS hl.1 rfl gX4_readLooks_X9_advance yd_X9_advance ⟨Nat.le_of_ble_eq_true rfl, Nat.le_of_ble_eq_true rfl⟩ h_ta ((va_up_ne M24 (.inr (0, hallF ad h (upd (upd (upd hv 9 1) 10 (nmX en bf (nX en bf x))) 11 (nmX en bf (nX en bf (nX en bf x)))))) (show ta ≠ h by omega)).trans ((fr27 ta (by omega)).trans g21)) (ci := 9) rfl rfl (Nat.le_of_ble_eq_true rfl) ⟨Nat.zero_le _, Nat.zero_le _⟩ dX4_readLooks_95 (fun M34 H locs hp33 hP hS => ?_)
        obtain ⟨g36, fr37⟩ := hp33
        refine lv_iconst (v := 1) hx hb dX4_readLooks_98 (by decide) ?_
        exact q_wzret X hr hlocks hP hS (rfl) ⟨(uX en bf (nX en bf (nX en bf x)) (uX en bf (nX en bf x) (uX en bf x nu))), (by rw [s_X4_readLooks, if_pos c_7, if_neg c_38, if_neg c_72]), (by rw [s_X4_readLooks_0_4, if_pos c_7, if_neg c_38, if_neg c_72]; exact g36), (by rw [s_X4_readLooks_1_2, if_pos c_7, if_neg c_38, if_neg c_72]; exact ((fr37 rd (by omega)).trans ((va_up_ne M24 (.inr (0, hallF ad h (upd (upd (upd hv 9 1) 10 (nmX en bf (nX en bf x))) 11 (nmX en bf (nX en bf (nX en bf x)))))) (show rd ≠ h by omega)).trans g28))), (by rw [s_X4_readLooks_2_1, if_pos c_7, if_neg c_38, if_neg c_72]; exact ((fr37 h (by omega)).trans (va_up_self M24 h (.inr (0, hallF ad h (upd (upd (upd hv 9 1) 10 (nmX en bf (nX en bf x))) 11 (nmX en bf (nX en bf (nX en bf x))))))))), (fun q n0 n1 n2 => ((fr37 q n0).trans ((va_up_ne _ _ n2).trans ((fr27 q n1).trans ((fr22 q n0).trans ((va_up_ne _ _ n2).trans ((fr12 q n1).trans ((fr7 q n0).trans (va_up_ne _ _ n2)))))))))⟩ dX4_readLooks_99
      · skip
        have g38 : M24 rd = .inr (4, [.ref (ad ta), .ref (ad h), .int (fkN en bf (nX en bf (nX en bf x)))]) := by refine g26.trans ?_; simp only [pk0_t c_72]
        refine lv_iconst (v := 0) hx hb dX4_readLooks_75 (by decide) ?_
        exact q_wzret X hr hlocks hP hS (rfl) ⟨(uX en bf (nX en bf x) (uX en bf x nu)), (by rw [s_X4_readLooks, if_pos c_7, if_neg c_38, if_pos c_72]), (by rw [s_X4_readLooks_0_4, if_pos c_7, if_neg c_38, if_pos c_72]; exact ((fr27 ta (by omega)).trans g21)), (by rw [s_X4_readLooks_1_2, if_pos c_7, if_neg c_38, if_pos c_72]; exact g38), (by rw [s_X4_readLooks_2_1, if_pos c_7, if_neg c_38, if_pos c_72]; exact ((fr27 h (by omega)).trans ((fr22 h (by omega)).trans (va_up_self M9 h (.inr (0, hallF ad h (upd (upd hv 9 1) 10 (nmX en bf (nX en bf x))))))))), (fun q n0 n1 n2 => ((fr27 q n1).trans ((fr22 q n0).trans ((va_up_ne _ _ n2).trans ((fr12 q n1).trans ((fr7 q n0).trans (va_up_ne _ _ n2)))))))⟩ dX4_readLooks_76
    · skip
      have g39 : M9 rd = .inr (4, [.ref (ad ta), .ref (ad h), .int (fkN en bf (nX en bf x))]) := by refine g11.trans ?_; simp only [pk0_t c_38]
      refine lv_iconst (v := 0) hx hb dX4_readLooks_41 (by decide) ?_
      exact q_wzret X hr hlocks hP hS (rfl) ⟨(uX en bf x nu), (by rw [s_X4_readLooks, if_pos c_7, if_pos c_38]), (by rw [s_X4_readLooks_0_4, if_pos c_7, if_pos c_38]; exact ((fr12 ta (by omega)).trans g6)), (by rw [s_X4_readLooks_1_2, if_pos c_7, if_pos c_38]; exact g39), (by rw [s_X4_readLooks_2_1, if_pos c_7, if_pos c_38]; exact ((fr12 h (by omega)).trans ((fr7 h (by omega)).trans (va_up_self M h (.inr (0, hallF ad h (upd hv 9 1))))))), (fun q n0 n1 n2 => ((fr12 q n1).trans ((fr7 q n0).trans (va_up_ne _ _ n2))))⟩ dX4_readLooks_42
  · skip
    refine lv_aload_n hx hb dX4_readLooks_10 rfl (lv_at hl 0 rfl) ?_
    refine lv_iconst (v := 5) hx hb dX4_readLooks_11 (by decide) ?_
    refine q_wrVi (As := [.int 5]) (rest := []) (c_X4_refuse l D cB cI cJ ad n M hI rd ta h en x ln nu ft bf 5 h_ta h_ta_1 h_rd m_ta m_ta_1 m_rd hxe hen srt) X hK hP hS hl.1 rfl gX4_readLooks_X4_refuse yd_X4_refuse ⟨Nat.le_of_ble_eq_true rfl, Nat.le_of_ble_eq_true rfl⟩ h_rd m_rd (ci := 4) rfl rfl (Nat.le_of_ble_eq_true rfl) ⟨Nat.zero_le _, Nat.zero_le _⟩ dX4_readLooks_12 (fun r42 M41 H locs hp40 hP hS => ?_)
    obtain ⟨rfl, g43, fr44⟩ := hp40
    exact q_wzret X hr hlocks hP hS (rfl) ⟨nu, (by rw [s_X4_readLooks, if_neg c_7]), (by rw [s_X4_readLooks_0_4, if_neg c_7]; exact ((fr44 ta (by omega)).trans m_ta)), (by rw [s_X4_readLooks_1_2, if_neg c_7]; exact g43), (by rw [s_X4_readLooks_2_1, if_neg c_7]; exact ((fr44 h (by omega)).trans m_h)), (fun q n0 n1 n2 => (fr44 q n1))⟩ dX4_readLooks_15
end
