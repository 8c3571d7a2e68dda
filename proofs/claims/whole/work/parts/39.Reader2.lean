/-! PoundsOver$Reader: a line for each kind -/
noncomputable section
set_option maxRecDepth 20000 in
theorem fX4_readPerson_15 : FL wsX4_readPerson RX4 15 4 1 := ⟨RX4, TX4, 3, rfl, by decide +kernel, by decide, by decide +kernel⟩
set_option maxRecDepth 20000 in
theorem fX4_readPerson_106 : FL wsX4_readPerson RX4 106 0 5 := ⟨RX0, TX0, 12, rfl, by decide +kernel, by decide, by decide +kernel⟩
set_option maxRecDepth 20000 in
theorem fX4_readPerson_9 : FL wsX4_readPerson RX4 9 4 0 := ⟨RX4, TX4, 3, rfl, by decide +kernel, by decide, by decide +kernel⟩
set_option maxRecDepth 20000 in
theorem fX4_readPerson_109 : FL wsX4_readPerson RX4 109 0 0 := ⟨RX0, TX0, 12, rfl, by decide +kernel, by decide, by decide +kernel⟩
theorem yd_X4_readNumber : YD yX4_readNumber 5 := ⟨by decide +kernel, by decide +kernel, by decide +kernel⟩
def s_X4_readPerson (en : Nat) (x : Nat) (bf : Nat → Int32) (hv : Nat → Int32) : Int32 := if (hv 5) < 4 then if ((s_X4_isNumber en (nX en bf x) bf 1 300)) = 0 then 0 else if ((s_X4_isNumber en (nX en bf (nX en bf x)) bf 0 9)) = 0 then 0 else if ((s_X4_isNumber en (nX en bf (nX en bf (nX en bf x))) bf 0 30)) = 0 then 0 else 1 else (0)
def s_X4_readPerson_0_4 (en : Nat) (x : Nat) (bf : Nat → Int32) (hv : Nat → Int32) : Nat := if (hv 5) < 4 then if ((s_X4_isNumber en (nX en bf x) bf 1 300)) = 0 then (nX en bf x) else if ((s_X4_isNumber en (nX en bf (nX en bf x)) bf 0 9)) = 0 then (nX en bf (nX en bf x)) else if ((s_X4_isNumber en (nX en bf (nX en bf (nX en bf x))) bf 0 30)) = 0 then (nX en bf (nX en bf (nX en bf x))) else (nX en bf (nX en bf (nX en bf (nX en bf x)))) else x
def s_X4_readPerson_1_2 (en : Nat) (x : Nat) (ft : Int32) (bf : Nat → Int32) (hv : Nat → Int32) : Int32 := if (hv 5) < 4 then if ((s_X4_isNumber en (nX en bf x) bf 1 300)) = 0 then (fkN en bf (nX en bf x)) else if ((s_X4_isNumber en (nX en bf (nX en bf x)) bf 0 9)) = 0 then (fkN en bf (nX en bf (nX en bf x))) else if ((s_X4_isNumber en (nX en bf (nX en bf (nX en bf x))) bf 0 30)) = 0 then (fkN en bf (nX en bf (nX en bf (nX en bf x)))) else ft else 2
def s_X4_readPerson_2_1 (en : Nat) (x : Nat) (bf : Nat → Int32) (hv : Nat → Int32) : Nat → Int32 := if (hv 5) < 4 then if ((s_X4_isNumber en (nX en bf x) bf 1 300)) = 0 then (upd hv 5 ((hv 5) + 1)) else if ((s_X4_isNumber en (nX en bf (nX en bf x)) bf 0 9)) = 0 then (upd hv 5 ((hv 5) + 1)) else if ((s_X4_isNumber en (nX en bf (nX en bf (nX en bf x))) bf 0 30)) = 0 then (upd hv 5 ((hv 5) + 1)) else (upd hv 5 ((hv 5) + 1)) else hv
def s_X4_readPerson_3_f (en : Nat) (x : Nat) (bf : Nat → Int32) (hv : Nat → Int32) (pf : Nat → Int32) : Nat → Int32 := if (hv 5) < 4 then if ((s_X4_isNumber en (nX en bf x) bf 1 300)) = 0 then pf else if ((s_X4_isNumber en (nX en bf (nX en bf x)) bf 0 9)) = 0 then (tset 12 pf ((hv 5) * 3 + 0) (nmX en bf (nX en bf x))) else if ((s_X4_isNumber en (nX en bf (nX en bf (nX en bf x))) bf 0 30)) = 0 then (tset 12 (tset 12 pf ((hv 5) * 3 + 0) (nmX en bf (nX en bf x))) ((hv 5) * 3 + 1) (nmX en bf (nX en bf (nX en bf x)))) else (tset 12 (tset 12 (tset 12 pf ((hv 5) * 3 + 0) (nmX en bf (nX en bf x))) ((hv 5) * 3 + 1) (nmX en bf (nX en bf (nX en bf x)))) ((hv 5) * 3 + 2) (nmX en bf (nX en bf (nX en bf (nX en bf x))))) else pf
set_option maxHeartbeats 2000000 in
set_option maxRecDepth 100000 in
theorem c_X4_readPerson (l : Launch) (D : va_G) (cB cI cJ : ClassId) (ad : Nat → Nat) (n : Nat) (M : Nat → va_E) (hI : ipI ad n) (rd ta h en x : Nat) (ln nu ft : Int32) (bf : Nat → Int32) (hv : Nat → Int32) (pf : Nat → Int32) (h_ta : ta < n) (h_ta_1 : ta + 1 < n) (h_rd : rd < n) (h_h : h < n) (h_h_1 : h + 1 < n) (h_h_2 : h + 2 < n) (m_ta : M ta = .inr (9, tapeX ad ta ln en bf x nu)) (m_ta_1 : M (ta + 1) = .inl (cB, 700, .inl bf)) (m_rd : M rd = .inr (4, [.ref (ad ta), .ref (ad h), .int ft])) (m_h : M h = .inr (0, hallF ad h hv)) (m_h_1 : M (h + 1) = .inr (8, [.int 3, .ref (ad (h + 2))])) (m_h_2 : M (h + 2) = .inl (cI, 12, .inl pf)) (hxe : x ≤ en) (hen : en ≤ 700) (srt : rd < ta ∨ ta + 1 < rd) (srh : rd < h ∨ h + 15 < rd) (sth : ta + 1 < h ∨ h + 15 < ta) : cWi l D cB cI cJ ad n M yX4_readPerson wsX4_readPerson 7 157 [.ref (ad rd)] (fun r M' => ∃ (v0__ : Int32), r = s_X4_readPerson en x bf hv ∧ M' ta = .inr (9, tapeX ad ta ln en bf (s_X4_readPerson_0_4 en x bf hv) v0__) ∧ M' rd = .inr (4, [.ref (ad ta), .ref (ad h), .int (s_X4_readPerson_1_2 en x ft bf hv)]) ∧ M' h = .inr (0, hallF ad h (s_X4_readPerson_2_1 en x bf hv)) ∧ M' (h + 2) = .inl (cI, 12, .inl (s_X4_readPerson_3_f en x bf hv pf)) ∧ ∀ q : Nat, q ≠ ta → q ≠ rd → q ≠ h → q ≠ h + 2 → M' q = M q) := by
  refine q_body (cc := cX4_readPerson) (maxL := 3) (ret := (some .boolean)) (by decide) rfl (Nat.le_of_ble_eq_true rfl) ?_
  intro p e s m args below meth c ls X hr hlocks hK hP hl
  obtain ⟨hx, hb, hml, hown, hts⟩ := id X
  have hS : va_S (ipA ad n) s.heap s.heap [] := va_S.rf
  have hl : lv_has ls 3 [(0, .ref (ad rd))] := hl
  refine lv_aload_n hx hb dX4_readPerson_0 rfl (lv_at hl 0 rfl) ?_
  refine q_get (v := .ref (ad h)) (fs := [.ref (ad ta), .ref (ad h), .int ft]) X hK hP fX4_readPerson_15 h_rd m_rd rfl dX4_readPerson_1 ?_
  refine q_get (v := .int (hv 5)) (fs := hallF ad h hv) X hK hP fX4_readPerson_106 h_h m_h rfl dX4_readPerson_4 ?_
  refine lv_istore_n (lv' := [(1, .int (hv 5)), (0, .ref (ad rd))]) hx hb dX4_readPerson_7 rfl hl (by decide) rfl (fun ls hl => ?_)
  refine lv_iload_n hx hb dX4_readPerson_8 rfl (lv_at hl 0 rfl) ?_
  refine lv_iconst (v := 4) hx hb dX4_readPerson_9 (by decide) ?_
  refine lv_icmp_lt (tgt := 19) hx hb dX4_readPerson_10 (by decide) (fun c_10 => ?_) (fun c_10 => ?_)
  · skip
    refine lv_aload_n hx hb dX4_readPerson_19 rfl (lv_at hl 1 rfl) ?_
    refine q_get (v := .ref (ad ta)) (fs := [.ref (ad ta), .ref (ad h), .int ft]) X hK hP fX4_readPerson_9 h_rd m_rd rfl dX4_readPerson_20 ?_
    refine q_wrVv (As := []) (rest := []) (c_X9_adv l D cB cI cJ ad n M hI ta en x ln nu bf h_ta h_ta_1 m_ta m_ta_1 hxe hen) X hK hP hS hl.1 rfl gX4_readPerson_X9_advance yd_X9_advance ⟨Nat.le_of_ble_eq_true rfl, Nat.le_of_ble_eq_true rfl⟩ h_ta m_ta (ci := 9) rfl rfl (Nat.le_of_ble_eq_true rfl) ⟨Nat.zero_le _, Nat.zero_le _⟩ dX4_readPerson_23 (fun M2 H locs hp1 hP hS => ?_)
    obtain ⟨g4, fr5⟩ := hp1
    refine lv_aload_n hx hb dX4_readPerson_26 rfl (lv_at hl 1 rfl) ?_
    refine lv_aload_n hx hb dX4_readPerson_27 rfl (lv_at hl 1 rfl) ?_
    refine q_get (v := .ref (ad h)) (fs := [.ref (ad ta), .ref (ad h), .int ft]) X hK hP fX4_readPerson_15 h_rd ((fr5 rd (by omega)).trans m_rd) rfl dX4_readPerson_28 ?_
    refine q_get (v := .ref (ad (h + 1))) (fs := hallF ad h hv) X hK hP fX4_readPerson_109 h_h ((fr5 h (by omega)).trans m_h) rfl dX4_readPerson_31 ?_
    refine lv_iload_n hx hb dX4_readPerson_34 rfl (lv_at hl 0 rfl) ?_
    refine lv_iconst (v := 0) hx hb dX4_readPerson_35 (by decide) ?_
    refine lv_iconst (v := 1) hx hb dX4_readPerson_36 (by decide) ?_
    refine lv_sipush (v := 300) hx hb dX4_readPerson_37 (by decide) ?_
    refine q_wrVi (As := [.ref (ad (h + 1)), .int (hv 5), .int 0, .int 1, .int 300]) (rest := []) (c_X4_readNumber l D cB cI cJ ad n M2 hI rd ta h en (nX en bf x) ln (uX en bf x nu) ft bf 12 3 pf (h + 1) (hv 5) 0 1 300 h_ta h_ta_1 h_rd h_h_1 h_h_2 g4 ((fr5 (ta + 1) (by omega)).trans m_ta_1) ((fr5 rd (by omega)).trans m_rd) ((fr5 (h + 1) (by omega)).trans m_h_1) ((fr5 (h + 2) (by omega)).trans m_h_2) (by first | (apply nX_le <;> (repeat' (first | assumption | apply nX_le))) | assumption | omega | (repeat' (first | assumption | apply nX_le | exact isN_k (by assumption) | exact isT_k (by assumption))) | exact vp_in_nI (by omega) (by decide)) hen srt (by decide) (by first | (apply nX_le <;> (repeat' (first | assumption | apply nX_le))) | assumption | omega | (repeat' (first | assumption | apply nX_le | exact isN_k (by assumption) | exact isT_k (by assumption))) | exact vp_in_nI (by omega) (by decide)) (by first | (apply nX_le <;> (repeat' (first | assumption | apply nX_le))) | assumption | omega | (repeat' (first | assumption | apply nX_le | exact isN_k (by assumption) | exact isT_k (by assumption))) | exact vp_in_nI (by omega) (by decide))) X hK hP hS hl.1 rfl gX4_readPerson_X4_readNumber yd_X4_readNumber ⟨Nat.le_of_ble_eq_true rfl, Nat.le_of_ble_eq_true rfl⟩ h_rd ((fr5 rd (by omega)).trans m_rd) (ci := 4) rfl rfl (Nat.le_of_ble_eq_true rfl) ⟨Nat.zero_le _, Nat.zero_le _⟩ dX4_readPerson_40 (fun r8 M7 H locs hp6 hP hS => ?_)
    obtain ⟨v0_9, rfl, g10, g11, g12, fr13⟩ := hp6
    refine lv_if_eq (tgt := 88) hx hb dX4_readPerson_43 (by decide) (fun c_43 => ?_) (fun c_43 => ?_)
    · skip
      have g14 : M7 ta = .inr (9, tapeX ad ta ln en bf (nX en bf x) v0_9) := by refine g10.trans ?_; simp only [pk0_t c_43]
      have g15 : M7 rd = .inr (4, [.ref (ad ta), .ref (ad h), .int (fkN en bf (nX en bf x))]) := by refine g11.trans ?_; simp only [pk0_t c_43]
      have g16 : M7 (h + 2) = .inl (cI, 12, .inl pf) := by refine g12.trans ?_; simp only [pk0_t c_43]
      refine lv_iconst (v := 0) hx hb dX4_readPerson_88 (by decide) ?_
      refine lv_istore_n (lv' := [(2, .int 0), (1, .int (hv 5)), (0, .ref (ad rd))]) hx hb dX4_readPerson_89 rfl hl (by decide) rfl (fun ls hl => ?_)
      refine lv_aload_n hx hb dX4_readPerson_90 rfl (lv_at hl 2 rfl) ?_
      refine q_get (v := .ref (ad h)) (fs := [.ref (ad ta), .ref (ad h), .int (fkN en bf (nX en bf x))]) X hK hP fX4_readPerson_15 h_rd g15 rfl dX4_readPerson_91 ?_
      refine lv_dup hx hb dX4_readPerson_94 rfl ?_
      refine q_get (v := .int (hv 5)) (fs := hallF ad h hv) X hK hP fX4_readPerson_106 h_h ((fr13 h (by omega) (by omega) (by omega)).trans ((fr5 h (by omega)).trans m_h)) rfl dX4_readPerson_95 ?_
      refine lv_iconst (v := 1) hx hb dX4_readPerson_98 (by decide) ?_
      refine lv_iadd hx hb dX4_readPerson_99 ?_
      refine q_put (fs := hallF ad h hv) (fs' := hallF ad h (upd hv 5 ((hv 5) + 1))) X hK hI hP hS fX4_readPerson_106 fw_0_5 h_h ((fr13 h (by omega) (by omega) (by omega)).trans ((fr5 h (by omega)).trans m_h)) rfl rfl (Nat.le_of_ble_eq_true rfl) rfl dX4_readPerson_100 (fun H locs hP hS => ?_)
      refine lv_iload_n hx hb dX4_readPerson_103 rfl (lv_at hl 0 rfl) ?_
      exact q_wzret X hr hlocks hP hS (rfl) ⟨v0_9, (by rw [s_X4_readPerson, if_pos c_10, if_pos c_43]), (by rw [s_X4_readPerson_0_4, if_pos c_10, if_pos c_43]; exact ((va_up_ne M7 (.inr (0, hallF ad h (upd hv 5 ((hv 5) + 1)))) (show ta ≠ h by omega)).trans g14)), (by rw [s_X4_readPerson_1_2, if_pos c_10, if_pos c_43]; exact ((va_up_ne M7 (.inr (0, hallF ad h (upd hv 5 ((hv 5) + 1)))) (show rd ≠ h by omega)).trans g15)), (by rw [s_X4_readPerson_2_1, if_pos c_10, if_pos c_43]; exact (va_up_self M7 h (.inr (0, hallF ad h (upd hv 5 ((hv 5) + 1)))))), (by rw [s_X4_readPerson_3_f, if_pos c_10, if_pos c_43]; exact ((va_up_ne M7 (.inr (0, hallF ad h (upd hv 5 ((hv 5) + 1)))) (show h + 2 ≠ h by omega)).trans g16)), (fun q n0 n1 n2 n3 => ((va_up_ne _ _ n2).trans ((fr13 q n0 n1 n3).trans (fr5 q n0))))⟩ dX4_readPerson_104
    · skip
      have g19 : M7 ta = .inr (9, tapeX ad ta ln en bf (nX en bf (nX en bf x)) v0_9) := by refine g10.trans ?_; simp only [pk0_f c_43]
      have g20 : M7 rd = .inr (4, [.ref (ad ta), .ref (ad h), .int ft]) := by refine g11.trans ?_; simp only [pk0_f c_43]
      have g21 : M7 (h + 2) = .inl (cI, 12, .inl (tset 12 pf ((hv 5) * 3 + 0) (nmX en bf (nX en bf x)))) := by refine g12.trans ?_; simp only [pk0_f c_43]
      refine lv_aload_n hx hb dX4_readPerson_46 rfl (lv_at hl 1 rfl) ?_
      refine lv_aload_n hx hb dX4_readPerson_47 rfl (lv_at hl 1 rfl) ?_
      refine q_get (v := .ref (ad h)) (fs := [.ref (ad ta), .ref (ad h), .int ft]) X hK hP fX4_readPerson_15 h_rd g20 rfl dX4_readPerson_48 ?_
      refine q_get (v := .ref (ad (h + 1))) (fs := hallF ad h hv) X hK hP fX4_readPerson_109 h_h ((fr13 h (by omega) (by omega) (by omega)).trans ((fr5 h (by omega)).trans m_h)) rfl dX4_readPerson_51 ?_
      refine lv_iload_n hx hb dX4_readPerson_54 rfl (lv_at hl 0 rfl) ?_
      refine lv_iconst (v := 1) hx hb dX4_readPerson_55 (by decide) ?_
      refine lv_iconst (v := 0) hx hb dX4_readPerson_56 (by decide) ?_
      refine lv_bipush (v := 9) hx hb dX4_readPerson_57 (by decide) ?_
      refine q_wrVi (As := [.ref (ad (h + 1)), .int (hv 5), .int 1, .int 0, .int 9]) (rest := []) (c_X4_readNumber l D cB cI cJ ad n M7 hI rd ta h en (nX en bf (nX en bf x)) ln v0_9 ft bf 12 3 (tset 12 pf ((hv 5) * 3 + 0) (nmX en bf (nX en bf x))) (h + 1) (hv 5) 1 0 9 h_ta h_ta_1 h_rd h_h_1 h_h_2 g19 ((fr13 (ta + 1) (by omega) (by omega) (by omega)).trans ((fr5 (ta + 1) (by omega)).trans m_ta_1)) g20 ((fr13 (h + 1) (by omega) (by omega) (by omega)).trans ((fr5 (h + 1) (by omega)).trans m_h_1)) g21 (by first | (apply nX_le <;> (repeat' (first | assumption | apply nX_le))) | assumption | omega | (repeat' (first | assumption | apply nX_le | exact isN_k (by assumption) | exact isT_k (by assumption))) | exact vp_in_nI (by omega) (by decide)) hen srt (by decide) (by first | (apply nX_le <;> (repeat' (first | assumption | apply nX_le))) | assumption | omega | (repeat' (first | assumption | apply nX_le | exact isN_k (by assumption) | exact isT_k (by assumption))) | exact vp_in_nI (by omega) (by decide)) (by first | (apply nX_le <;> (repeat' (first | assumption | apply nX_le))) | assumption | omega | (repeat' (first | assumption | apply nX_le | exact isN_k (by assumption) | exact isT_k (by assumption))) | exact vp_in_nI (by omega) (by decide))) X hK hP hS hl.1 rfl gX4_readPerson_X4_readNumber yd_X4_readNumber ⟨Nat.le_of_ble_eq_true rfl, Nat.le_of_ble_eq_true rfl⟩ h_rd g20 (ci := 4) rfl rfl (Nat.le_of_ble_eq_true rfl) ⟨Nat.zero_le _, Nat.zero_le _⟩ dX4_readPerson_59 (fun r24 M23 H locs hp22 hP hS => ?_)
      obtain ⟨v0_25, rfl, g26, g27, g28, fr29⟩ := hp22
      refine lv_if_eq (tgt := 88) hx hb dX4_readPerson_62 (by decide) (fun c_62 => ?_) (fun c_62 => ?_)
      · skip
        have g30 : M23 ta = .inr (9, tapeX ad ta ln en bf (nX en bf (nX en bf x)) v0_25) := by refine g26.trans ?_; simp only [pk0_t c_62]
        have g31 : M23 rd = .inr (4, [.ref (ad ta), .ref (ad h), .int (fkN en bf (nX en bf (nX en bf x)))]) := by refine g27.trans ?_; simp only [pk0_t c_62]
        have g32 : M23 (h + 2) = .inl (cI, 12, .inl (tset 12 pf ((hv 5) * 3 + 0) (nmX en bf (nX en bf x)))) := by refine g28.trans ?_; simp only [pk0_t c_62]
        refine lv_iconst (v := 0) hx hb dX4_readPerson_88 (by decide) ?_
        refine lv_istore_n (lv' := [(2, .int 0), (1, .int (hv 5)), (0, .ref (ad rd))]) hx hb dX4_readPerson_89 rfl hl (by decide) rfl (fun ls hl => ?_)
        refine lv_aload_n hx hb dX4_readPerson_90 rfl (lv_at hl 2 rfl) ?_
        refine q_get (v := .ref (ad h)) (fs := [.ref (ad ta), .ref (ad h), .int (fkN en bf (nX en bf (nX en bf x)))]) X hK hP fX4_readPerson_15 h_rd g31 rfl dX4_readPerson_91 ?_
        refine lv_dup hx hb dX4_readPerson_94 rfl ?_
        refine q_get (v := .int (hv 5)) (fs := hallF ad h hv) X hK hP fX4_readPerson_106 h_h ((fr29 h (by omega) (by omega) (by omega)).trans ((fr13 h (by omega) (by omega) (by omega)).trans ((fr5 h (by omega)).trans m_h))) rfl dX4_readPerson_95 ?_
        refine lv_iconst (v := 1) hx hb dX4_readPerson_98 (by decide) ?_
        refine lv_iadd hx hb dX4_readPerson_99 ?_
        refine q_put (fs := hallF ad h hv) (fs' := hallF ad h (upd hv 5 ((hv 5) + 1))) X hK hI hP hS fX4_readPerson_106 fw_0_5 h_h ((fr29 h (by omega) (by omega) (by omega)).trans ((fr13 h (by omega) (by omega) (by omega)).trans ((fr5 h (by omega)).trans m_h))) rfl rfl (Nat.le_of_ble_eq_true rfl) rfl dX4_readPerson_100 (fun H locs hP hS => ?_)
        refine lv_iload_n hx hb dX4_readPerson_103 rfl (lv_at hl 0 rfl) ?_
        exact q_wzret X hr hlocks hP hS (rfl) ⟨v0_25, (by rw [s_X4_readPerson, if_pos c_10, if_neg c_43, if_pos c_62]), (by rw [s_X4_readPerson_0_4, if_pos c_10, if_neg c_43, if_pos c_62]; exact ((va_up_ne M23 (.inr (0, hallF ad h (upd hv 5 ((hv 5) + 1)))) (show ta ≠ h by omega)).trans g30)), (by rw [s_X4_readPerson_1_2, if_pos c_10, if_neg c_43, if_pos c_62]; exact ((va_up_ne M23 (.inr (0, hallF ad h (upd hv 5 ((hv 5) + 1)))) (show rd ≠ h by omega)).trans g31)), (by rw [s_X4_readPerson_2_1, if_pos c_10, if_neg c_43, if_pos c_62]; exact (va_up_self M23 h (.inr (0, hallF ad h (upd hv 5 ((hv 5) + 1)))))), (by rw [s_X4_readPerson_3_f, if_pos c_10, if_neg c_43, if_pos c_62]; exact ((va_up_ne M23 (.inr (0, hallF ad h (upd hv 5 ((hv 5) + 1)))) (show h + 2 ≠ h by omega)).trans g32)), (fun q n0 n1 n2 n3 => ((va_up_ne _ _ n2).trans ((fr29 q n0 n1 n3).trans ((fr13 q n0 n1 n3).trans (fr5 q n0)))))⟩ dX4_readPerson_104
      · skip
        have g35 : M23 ta = .inr (9, tapeX ad ta ln en bf (nX en bf (nX en bf (nX en bf x))) v0_25) := by refine g26.trans ?_; simp only [pk0_f c_62]
        have g36 : M23 rd = .inr (4, [.ref (ad ta), .ref (ad h), .int ft]) := by refine g27.trans ?_; simp only [pk0_f c_62]
        have g37 : M23 (h + 2) = .inl (cI, 12, .inl (tset 12 (tset 12 pf ((hv 5) * 3 + 0) (nmX en bf (nX en bf x))) ((hv 5) * 3 + 1) (nmX en bf (nX en bf (nX en bf x))))) := by refine g28.trans ?_; simp only [pk0_f c_62]
        refine lv_aload_n hx hb dX4_readPerson_65 rfl (lv_at hl 1 rfl) ?_
        refine lv_aload_n hx hb dX4_readPerson_66 rfl (lv_at hl 1 rfl) ?_
        refine q_get (v := .ref (ad h)) (fs := [.ref (ad ta), .ref (ad h), .int ft]) X hK hP fX4_readPerson_15 h_rd g36 rfl dX4_readPerson_67 ?_
        refine q_get (v := .ref (ad (h + 1))) (fs := hallF ad h hv) X hK hP fX4_readPerson_109 h_h ((fr29 h (by omega) (by omega) (by omega)).trans ((fr13 h (by omega) (by omega) (by omega)).trans ((fr5 h (by omega)).trans m_h))) rfl dX4_readPerson_70 ?_
        refine lv_iload_n hx hb dX4_readPerson_73 rfl (lv_at hl 0 rfl) ?_
        refine lv_iconst (v := 2) hx hb dX4_readPerson_74 (by decide) ?_
        refine lv_iconst (v := 0) hx hb dX4_readPerson_75 (by decide) ?_
        refine lv_bipush (v := 30) hx hb dX4_readPerson_76 (by decide) ?_
        refine q_wrVi (As := [.ref (ad (h + 1)), .int (hv 5), .int 2, .int 0, .int 30]) (rest := []) (c_X4_readNumber l D cB cI cJ ad n M23 hI rd ta h en (nX en bf (nX en bf (nX en bf x))) ln v0_25 ft bf 12 3 (tset 12 (tset 12 pf ((hv 5) * 3 + 0) (nmX en bf (nX en bf x))) ((hv 5) * 3 + 1) (nmX en bf (nX en bf (nX en bf x)))) (h + 1) (hv 5) 2 0 30 h_ta h_ta_1 h_rd h_h_1 h_h_2 g35 ((fr29 (ta + 1) (by omega) (by omega) (by omega)).trans ((fr13 (ta + 1) (by omega) (by omega) (by omega)).trans ((fr5 (ta + 1) (by omega)).trans m_ta_1))) g36 ((fr29 (h + 1) (by omega) (by omega) (by omega)).trans ((fr13 (h + 1) (by omega) (by omega) (by omega)).trans ((fr5 (h + 1) (by omega)).trans m_h_1))) g37 (by first | (apply nX_le <;> (repeat' (first | assumption | apply nX_le))) | assumption | omega | (repeat' (first | assumption | apply nX_le | exact isN_k (by assumption) | exact isT_k (by assumption))) | exact vp_in_nI (by omega) (by decide)) hen srt (by decide) (by first | (apply nX_le <;> (repeat' (first | assumption | apply nX_le))) | assumption | omega | (repeat' (first | assumption | apply nX_le | exact isN_k (by assumption) | exact isT_k (by assumption))) | exact vp_in_nI (by omega) (by decide)) (by first | (apply nX_le <;> (repeat' (first | assumption | apply nX_le))) | assumption | omega | (repeat' (first | assumption | apply nX_le | exact isN_k (by assumption) | exact isT_k (by assumption))) | exact vp_in_nI (by omega) (by decide))) X hK hP hS hl.1 rfl gX4_readPerson_X4_readNumber yd_X4_readNumber ⟨Nat.le_of_ble_eq_true rfl, Nat.le_of_ble_eq_true rfl⟩ h_rd g36 (ci := 4) rfl rfl (Nat.le_of_ble_eq_true rfl) ⟨Nat.zero_le _, Nat.zero_le _⟩ dX4_readPerson_78 (fun r40 M39 H locs hp38 hP hS => ?_)
        obtain ⟨v0_41, rfl, g42, g43, g44, fr45⟩ := hp38
        refine lv_if_eq (tgt := 88) hx hb dX4_readPerson_81 (by decide) (fun c_81 => ?_) (fun c_81 => ?_)
        · skip
          have g46 : M39 ta = .inr (9, tapeX ad ta ln en bf (nX en bf (nX en bf (nX en bf x))) v0_41) := by refine g42.trans ?_; simp only [pk0_t c_81]
          have g47 : M39 rd = .inr (4, [.ref (ad ta), .ref (ad h), .int (fkN en bf (nX en bf (nX en bf (nX en bf x))))]) := by refine g43.trans ?_; simp only [pk0_t c_81]
          have g48 : M39 (h + 2) = .inl (cI, 12, .inl (tset 12 (tset 12 pf ((hv 5) * 3 + 0) (nmX en bf (nX en bf x))) ((hv 5) * 3 + 1) (nmX en bf (nX en bf (nX en bf x))))) := by refine g44.trans ?_; simp only [pk0_t c_81]
          refine lv_iconst (v := 0) hx hb dX4_readPerson_88 (by decide) ?_
          refine lv_istore_n (lv' := [(2, .int 0), (1, .int (hv 5)), (0, .ref (ad rd))]) hx hb dX4_readPerson_89 rfl hl (by decide) rfl (fun ls hl => ?_)
          refine lv_aload_n hx hb dX4_readPerson_90 rfl (lv_at hl 2 rfl) ?_
          refine q_get (v := .ref (ad h)) (fs := [.ref (ad ta), .ref (ad h), .int (fkN en bf (nX en bf (nX en bf (nX en bf x))))]) X hK hP fX4_readPerson_15 h_rd g47 rfl dX4_readPerson_91 ?_
          refine lv_dup hx hb dX4_readPerson_94 rfl ?_
          refine q_get (v := .int (hv 5)) (fs := hallF ad h hv) X hK hP fX4_readPerson_106 h_h ((fr45 h (by omega) (by omega) (by omega)).trans ((fr29 h (by omega) (by omega) (by omega)).trans ((fr13 h (by omega) (by omega) (by omega)).trans ((fr5 h (by omega)).trans m_h)))) rfl dX4_readPerson_95 ?_
          refine lv_iconst (v := 1) hx hb dX4_readPerson_98 (by decide) ?_
          refine lv_iadd hx hb dX4_readPerson_99 ?_
          refine q_put (fs := hallF ad h hv) (fs' := hallF ad h (upd hv 5 ((hv 5) + 1))) X hK hI hP hS fX4_readPerson_106 fw_0_5 h_h ((fr45 h (by omega) (by omega) (by omega)).trans ((fr29 h (by omega) (by omega) (by omega)).trans ((fr13 h (by omega) (by omega) (by omega)).trans ((fr5 h (by omega)).trans m_h)))) rfl rfl (Nat.le_of_ble_eq_true rfl) rfl dX4_readPerson_100 (fun H locs hP hS => ?_)
          refine lv_iload_n hx hb dX4_readPerson_103 rfl (lv_at hl 0 rfl) ?_
          exact q_wzret X hr hlocks hP hS (rfl) ⟨v0_41, (by rw [s_X4_readPerson, if_pos c_10, if_neg c_43, if_neg c_62, if_pos c_81]), (by rw [s_X4_readPerson_0_4, if_pos c_10, if_neg c_43, if_neg c_62, if_pos c_81]; exact ((va_up_ne M39 (.inr (0, hallF ad h (upd hv 5 ((hv 5) + 1)))) (show ta ≠ h by omega)).trans g46)), (by rw [s_X4_readPerson_1_2, if_pos c_10, if_neg c_43, if_neg c_62, if_pos c_81]; exact ((va_up_ne M39 (.inr (0, hallF ad h (upd hv 5 ((hv 5) + 1)))) (show rd ≠ h by omega)).trans g47)), (by rw [s_X4_readPerson_2_1, if_pos c_10, if_neg c_43, if_neg c_62, if_pos c_81]; exact (va_up_self M39 h (.inr (0, hallF ad h (upd hv 5 ((hv 5) + 1)))))), (by rw [s_X4_readPerson_3_f, if_pos c_10, if_neg c_43, if_neg c_62, if_pos c_81]; exact ((va_up_ne M39 (.inr (0, hallF ad h (upd hv 5 ((hv 5) + 1)))) (show h + 2 ≠ h by omega)).trans g48)), (fun q n0 n1 n2 n3 => ((va_up_ne _ _ n2).trans ((fr45 q n0 n1 n3).trans ((fr29 q n0 n1 n3).trans ((fr13 q n0 n1 n3).trans (fr5 q n0))))))⟩ dX4_readPerson_104
        · skip
          have g51 : M39 ta = .inr (9, tapeX ad ta ln en bf (nX en bf (nX en bf (nX en bf (nX en bf x)))) v0_41) := by refine g42.trans ?_; simp only [pk0_f c_81]
          have g52 : M39 rd = .inr (4, [.ref (ad ta), .ref (ad h), .int ft]) := by refine g43.trans ?_; simp only [pk0_f c_81]
          have g53 : M39 (h + 2) = .inl (cI, 12, .inl (tset 12 (tset 12 (tset 12 pf ((hv 5) * 3 + 0) (nmX en bf (nX en bf x))) ((hv 5) * 3 + 1) (nmX en bf (nX en bf (nX en bf x)))) ((hv 5) * 3 + 2) (nmX en bf (nX en bf (nX en bf (nX en bf x)))))) := by refine g44.trans ?_; simp only [pk0_f c_81]
          refine lv_iconst (v := 1) hx hb dX4_readPerson_84 (by decide) ?_
          refine lv_goto (tgt := 89) hx hb dX4_readPerson_85 (by decide) ?_
          refine lv_istore_n (lv' := [(2, .int 1), (1, .int (hv 5)), (0, .ref (ad rd))]) hx hb dX4_readPerson_89 rfl hl (by decide) rfl (fun ls hl => ?_)
          refine lv_aload_n hx hb dX4_readPerson_90 rfl (lv_at hl 2 rfl) ?_
          refine q_get (v := .ref (ad h)) (fs := [.ref (ad ta), .ref (ad h), .int ft]) X hK hP fX4_readPerson_15 h_rd g52 rfl dX4_readPerson_91 ?_
          refine lv_dup hx hb dX4_readPerson_94 rfl ?_
          refine q_get (v := .int (hv 5)) (fs := hallF ad h hv) X hK hP fX4_readPerson_106 h_h ((fr45 h (by omega) (by omega) (by omega)).trans ((fr29 h (by omega) (by omega) (by omega)).trans ((fr13 h (by omega) (by omega) (by omega)).trans ((fr5 h (by omega)).trans m_h)))) rfl dX4_readPerson_95 ?_
          refine lv_iconst (v := 1) hx hb dX4_readPerson_98 (by decide) ?_
          refine lv_iadd hx hb dX4_readPerson_99 ?_
          refine q_put (fs := hallF ad h hv) (fs' := hallF ad h (upd hv 5 ((hv 5) + 1))) X hK hI hP hS fX4_readPerson_106 fw_0_5 h_h ((fr45 h (by omega) (by omega) (by omega)).trans ((fr29 h (by omega) (by omega) (by omega)).trans ((fr13 h (by omega) (by omega) (by omega)).trans ((fr5 h (by omega)).trans m_h)))) rfl rfl (Nat.le_of_ble_eq_true rfl) rfl dX4_readPerson_100 (fun H locs hP hS => ?_)
          refine lv_iload_n hx hb dX4_readPerson_103 rfl (lv_at hl 0 rfl) ?_
          exact q_wzret X hr hlocks hP hS (rfl) ⟨v0_41, (by rw [s_X4_readPerson, if_pos c_10, if_neg c_43, if_neg c_62, if_neg c_81]), (by rw [s_X4_readPerson_0_4, if_pos c_10, if_neg c_43, if_neg c_62, if_neg c_81]; exact ((va_up_ne M39 (.inr (0, hallF ad h (upd hv 5 ((hv 5) + 1)))) (show ta ≠ h by omega)).trans g51)), (by rw [s_X4_readPerson_1_2, if_pos c_10, if_neg c_43, if_neg c_62, if_neg c_81]; exact ((va_up_ne M39 (.inr (0, hallF ad h (upd hv 5 ((hv 5) + 1)))) (show rd ≠ h by omega)).trans g52)), (by rw [s_X4_readPerson_2_1, if_pos c_10, if_neg c_43, if_neg c_62, if_neg c_81]; exact (va_up_self M39 h (.inr (0, hallF ad h (upd hv 5 ((hv 5) + 1)))))), (by rw [s_X4_readPerson_3_f, if_pos c_10, if_neg c_43, if_neg c_62, if_neg c_81]; exact ((va_up_ne M39 (.inr (0, hallF ad h (upd hv 5 ((hv 5) + 1)))) (show h + 2 ≠ h by omega)).trans g53)), (fun q n0 n1 n2 n3 => ((va_up_ne _ _ n2).trans ((fr45 q n0 n1 n3).trans ((fr29 q n0 n1 n3).trans ((fr13 q n0 n1 n3).trans (fr5 q n0))))))⟩ dX4_readPerson_104
  · skip
    refine lv_aload_n hx hb dX4_readPerson_13 rfl (lv_at hl 1 rfl) ?_
    refine lv_iconst (v := 2) hx hb dX4_readPerson_14 (by decide) ?_
    refine q_wrVi (As := [.int 2]) (rest := []) (c_X4_refuse l D cB cI cJ ad n M hI rd ta h en x ln nu ft bf 2 h_ta h_ta_1 h_rd m_ta m_ta_1 m_rd hxe hen srt) X hK hP hS hl.1 rfl gX4_readPerson_X4_refuse yd_X4_refuse ⟨Nat.le_of_ble_eq_true rfl, Nat.le_of_ble_eq_true rfl⟩ h_rd m_rd (ci := 4) rfl rfl (Nat.le_of_ble_eq_true rfl) ⟨Nat.zero_le _, Nat.zero_le _⟩ dX4_readPerson_15 (fun r58 M57 H locs hp56 hP hS => ?_)
    obtain ⟨rfl, g59, fr60⟩ := hp56
    exact q_wzret X hr hlocks hP hS (rfl) ⟨nu, (by rw [s_X4_readPerson, if_neg c_10]), (by rw [s_X4_readPerson_0_4, if_neg c_10]; exact ((fr60 ta (by omega)).trans m_ta)), (by rw [s_X4_readPerson_1_2, if_neg c_10]; exact g59), (by rw [s_X4_readPerson_2_1, if_neg c_10]; exact ((fr60 h (by omega)).trans m_h)), (by rw [s_X4_readPerson_3_f, if_neg c_10]; exact ((fr60 (h + 2) (by omega)).trans m_h_2)), (fun q n0 n1 n2 n3 => (fr60 q n1))⟩ dX4_readPerson_18
set_option maxRecDepth 20000 in
theorem fX4_readCase_15 : FL wsX4_readCase RX4 15 4 1 := ⟨RX4, TX4, 3, rfl, by decide +kernel, by decide, by decide +kernel⟩
set_option maxRecDepth 20000 in
theorem fX4_readCase_117 : FL wsX4_readCase RX4 117 0 6 := ⟨RX0, TX0, 12, rfl, by decide +kernel, by decide, by decide +kernel⟩
set_option maxRecDepth 20000 in
theorem fX4_readCase_9 : FL wsX4_readCase RX4 9 4 0 := ⟨RX4, TX4, 3, rfl, by decide +kernel, by decide, by decide +kernel⟩
set_option maxRecDepth 20000 in
theorem fX4_readCase_106 : FL wsX4_readCase RX4 106 0 5 := ⟨RX0, TX0, 12, rfl, by decide +kernel, by decide, by decide +kernel⟩
theorem yd_X4_isTold : YD yX4_isTold 1 := ⟨by decide +kernel, by decide +kernel, by decide +kernel⟩
set_option maxRecDepth 20000 in
theorem fX4_readCase_123 : FL wsX4_readCase RX4 123 0 1 := ⟨RX0, TX0, 12, rfl, by decide +kernel, by decide, by decide +kernel⟩
theorem yd_X4_takeNumber : YD yX4_takeNumber 3 := ⟨by decide +kernel, by decide +kernel, by decide +kernel⟩
set_option maxRecDepth 20000 in
theorem fX4_readCase_44 : FL wsX4_readCase RX4 44 9 7 := ⟨RX9, TX9, 8, rfl, by decide +kernel, by decide, by decide +kernel⟩
def s_X4_readCase (en : Nat) (x : Nat) (bf : Nat → Int32) (hv : Nat → Int32) : Int32 := if (hv 6) < 5 then if (s_X4_isTold en (nX en bf x) bf (hv 5)) = 0 then 0 else if ((s_X4_isNumber en (nX en bf (nX en bf x)) bf 0 200)) = 0 then 0 else if ((s_X4_isNumber en (nX en bf (nX en bf (nX en bf x))) bf 0 60)) = 0 then 0 else if ((s_X4_isNumber en (nX en bf (nX en bf (nX en bf (nX en bf x)))) bf 0 99)) = 0 then 0 else if (wX en bf (nX en bf (nX en bf (nX en bf (nX en bf (nX en bf x)))))) = 3 then 1 else 1 else (0)
def s_X4_readCase_0_4 (en : Nat) (x : Nat) (bf : Nat → Int32) (hv : Nat → Int32) : Nat := if (hv 6) < 5 then if (s_X4_isTold en (nX en bf x) bf (hv 5)) = 0 then (nX en bf x) else if ((s_X4_isNumber en (nX en bf (nX en bf x)) bf 0 200)) = 0 then (nX en bf (nX en bf x)) else if ((s_X4_isNumber en (nX en bf (nX en bf (nX en bf x))) bf 0 60)) = 0 then (nX en bf (nX en bf (nX en bf x))) else if ((s_X4_isNumber en (nX en bf (nX en bf (nX en bf (nX en bf x)))) bf 0 99)) = 0 then (nX en bf (nX en bf (nX en bf (nX en bf x)))) else if (wX en bf (nX en bf (nX en bf (nX en bf (nX en bf (nX en bf x)))))) = 3 then (nX en bf (nX en bf (nX en bf (nX en bf (nX en bf (nX en bf x)))))) else (nX en bf (nX en bf (nX en bf (nX en bf (nX en bf x))))) else x
def s_X4_readCase_1_2 (en : Nat) (x : Nat) (ft : Int32) (bf : Nat → Int32) (hv : Nat → Int32) : Int32 := if (hv 6) < 5 then if (s_X4_isTold en (nX en bf x) bf (hv 5)) = 0 then (fkT en (nX en bf x) bf) else if ((s_X4_isNumber en (nX en bf (nX en bf x)) bf 0 200)) = 0 then (fkN en bf (nX en bf (nX en bf x))) else if ((s_X4_isNumber en (nX en bf (nX en bf (nX en bf x))) bf 0 60)) = 0 then (fkN en bf (nX en bf (nX en bf (nX en bf x)))) else if ((s_X4_isNumber en (nX en bf (nX en bf (nX en bf (nX en bf x)))) bf 0 99)) = 0 then (fkN en bf (nX en bf (nX en bf (nX en bf (nX en bf x))))) else if (wX en bf (nX en bf (nX en bf (nX en bf (nX en bf (nX en bf x)))))) = 3 then ft else ft else 2
def s_X4_readCase_2_1 (en : Nat) (x : Nat) (bf : Nat → Int32) (hv : Nat → Int32) : Nat → Int32 := if (hv 6) < 5 then if (s_X4_isTold en (nX en bf x) bf (hv 5)) = 0 then (upd hv 6 ((hv 6) + 1)) else if ((s_X4_isNumber en (nX en bf (nX en bf x)) bf 0 200)) = 0 then (upd hv 6 ((hv 6) + 1)) else if ((s_X4_isNumber en (nX en bf (nX en bf (nX en bf x))) bf 0 60)) = 0 then (upd hv 6 ((hv 6) + 1)) else if ((s_X4_isNumber en (nX en bf (nX en bf (nX en bf (nX en bf x)))) bf 0 99)) = 0 then (upd hv 6 ((hv 6) + 1)) else if (wX en bf (nX en bf (nX en bf (nX en bf (nX en bf (nX en bf x)))))) = 3 then (upd hv 6 ((hv 6) + 1)) else (upd hv 6 ((hv 6) + 1)) else hv
def s_X4_readCase_3_f (en : Nat) (x : Nat) (bf : Nat → Int32) (hv : Nat → Int32) (cf : Nat → Int32) : Nat → Int32 := if (hv 6) < 5 then if (s_X4_isTold en (nX en bf x) bf (hv 5)) = 0 then (tset 25 cf ((hv 6) * 5 + 4) 0) else if ((s_X4_isNumber en (nX en bf (nX en bf x)) bf 0 200)) = 0 then (tset 25 (tset 25 cf ((hv 6) * 5 + 0) (nmX en bf (nX en bf x))) ((hv 6) * 5 + 4) 0) else if ((s_X4_isNumber en (nX en bf (nX en bf (nX en bf x))) bf 0 60)) = 0 then (tset 25 (tset 25 (tset 25 cf ((hv 6) * 5 + 0) (nmX en bf (nX en bf x))) ((hv 6) * 5 + 1) (nmX en bf (nX en bf (nX en bf x)))) ((hv 6) * 5 + 4) 0) else if ((s_X4_isNumber en (nX en bf (nX en bf (nX en bf (nX en bf x)))) bf 0 99)) = 0 then (tset 25 (tset 25 (tset 25 (tset 25 cf ((hv 6) * 5 + 0) (nmX en bf (nX en bf x))) ((hv 6) * 5 + 1) (nmX en bf (nX en bf (nX en bf x)))) ((hv 6) * 5 + 2) (nmX en bf (nX en bf (nX en bf (nX en bf x))))) ((hv 6) * 5 + 4) 0) else if (wX en bf (nX en bf (nX en bf (nX en bf (nX en bf (nX en bf x)))))) = 3 then (tset 25 (tset 25 (tset 25 (tset 25 (tset 25 cf ((hv 6) * 5 + 0) (nmX en bf (nX en bf x))) ((hv 6) * 5 + 1) (nmX en bf (nX en bf (nX en bf x)))) ((hv 6) * 5 + 2) (nmX en bf (nX en bf (nX en bf (nX en bf x))))) ((hv 6) * 5 + 3) (nmX en bf (nX en bf (nX en bf (nX en bf (nX en bf x)))))) ((hv 6) * 5 + 4) 1) else (tset 25 (tset 25 (tset 25 (tset 25 (tset 25 cf ((hv 6) * 5 + 0) (nmX en bf (nX en bf x))) ((hv 6) * 5 + 1) (nmX en bf (nX en bf (nX en bf x)))) ((hv 6) * 5 + 2) (nmX en bf (nX en bf (nX en bf (nX en bf x))))) ((hv 6) * 5 + 3) (nmX en bf (nX en bf (nX en bf (nX en bf (nX en bf x)))))) ((hv 6) * 5 + 4) 0) else cf
set_option maxHeartbeats 2000000 in
set_option maxRecDepth 100000 in
theorem c_X4_readCase (l : Launch) (D : va_G) (cB cI cJ : ClassId) (ad : Nat → Nat) (n : Nat) (M : Nat → va_E) (hI : ipI ad n) (rd ta h en x : Nat) (ln nu ft : Int32) (bf : Nat → Int32) (hv : Nat → Int32) (cf : Nat → Int32) (h_ta : ta < n) (h_ta_1 : ta + 1 < n) (h_rd : rd < n) (h_h : h < n) (h_h_3 : h + 3 < n) (h_h_4 : h + 4 < n) (m_ta : M ta = .inr (9, tapeX ad ta ln en bf x nu)) (m_ta_1 : M (ta + 1) = .inl (cB, 700, .inl bf)) (m_rd : M rd = .inr (4, [.ref (ad ta), .ref (ad h), .int ft])) (m_h : M h = .inr (0, hallF ad h hv)) (m_h_3 : M (h + 3) = .inr (8, [.int 5, .ref (ad (h + 4))])) (m_h_4 : M (h + 4) = .inl (cI, 25, .inl cf)) (hxe : x ≤ en) (hen : en ≤ 700) (srt : rd < ta ∨ ta + 1 < rd) (srh : rd < h ∨ h + 15 < rd) (sth : ta + 1 < h ∨ h + 15 < ta) : cWi l D cB cI cJ ad n M yX4_readCase wsX4_readCase 7 157 [.ref (ad rd)] (fun r M' => ∃ (v0__ : Int32), r = s_X4_readCase en x bf hv ∧ M' ta = .inr (9, tapeX ad ta ln en bf (s_X4_readCase_0_4 en x bf hv) v0__) ∧ M' rd = .inr (4, [.ref (ad ta), .ref (ad h), .int (s_X4_readCase_1_2 en x ft bf hv)]) ∧ M' h = .inr (0, hallF ad h (s_X4_readCase_2_1 en x bf hv)) ∧ M' (h + 4) = .inl (cI, 25, .inl (s_X4_readCase_3_f en x bf hv cf)) ∧ ∀ q : Nat, q ≠ ta → q ≠ rd → q ≠ h → q ≠ h + 4 → M' q = M q) := by
  refine q_body (cc := cX4_readCase) (maxL := 4) (ret := (some .boolean)) (by decide) rfl (Nat.le_of_ble_eq_true rfl) ?_
  intro p e s m args below meth c ls X hr hlocks hK hP hl
  obtain ⟨hx, hb, hml, hown, hts⟩ := id X
  have hS : va_S (ipA ad n) s.heap s.heap [] := va_S.rf
  have hl : lv_has ls 4 [(0, .ref (ad rd))] := hl
  refine lv_aload_n hx hb dX4_readCase_0 rfl (lv_at hl 0 rfl) ?_
  refine q_get (v := .ref (ad h)) (fs := [.ref (ad ta), .ref (ad h), .int ft]) X hK hP fX4_readCase_15 h_rd m_rd rfl dX4_readCase_1 ?_
  refine q_get (v := .int (hv 6)) (fs := hallF ad h hv) X hK hP fX4_readCase_117 h_h m_h rfl dX4_readCase_4 ?_
  refine lv_istore_n (lv' := [(1, .int (hv 6)), (0, .ref (ad rd))]) hx hb dX4_readCase_7 rfl hl (by decide) rfl (fun ls hl => ?_)
  refine lv_iload_n hx hb dX4_readCase_8 rfl (lv_at hl 0 rfl) ?_
  refine lv_iconst (v := 5) hx hb dX4_readCase_9 (by decide) ?_
  refine lv_icmp_lt (tgt := 19) hx hb dX4_readCase_10 (by decide) (fun c_10 => ?_) (fun c_10 => ?_)
  · skip
    refine lv_aload_n hx hb dX4_readCase_19 rfl (lv_at hl 1 rfl) ?_
    refine q_get (v := .ref (ad ta)) (fs := [.ref (ad ta), .ref (ad h), .int ft]) X hK hP fX4_readCase_9 h_rd m_rd rfl dX4_readCase_20 ?_
    refine q_wrVv (As := []) (rest := []) (c_X9_adv l D cB cI cJ ad n M hI ta en x ln nu bf h_ta h_ta_1 m_ta m_ta_1 hxe hen) X hK hP hS hl.1 rfl gX4_readCase_X9_advance yd_X9_advance ⟨Nat.le_of_ble_eq_true rfl, Nat.le_of_ble_eq_true rfl⟩ h_ta m_ta (ci := 9) rfl rfl (Nat.le_of_ble_eq_true rfl) ⟨Nat.zero_le _, Nat.zero_le _⟩ dX4_readCase_23 (fun M2 H locs hp1 hP hS => ?_)
    obtain ⟨g4, fr5⟩ := hp1
    refine lv_aload_n hx hb dX4_readCase_26 rfl (lv_at hl 1 rfl) ?_
    refine lv_aload_n hx hb dX4_readCase_27 rfl (lv_at hl 1 rfl) ?_
    refine q_get (v := .ref (ad h)) (fs := [.ref (ad ta), .ref (ad h), .int ft]) X hK hP fX4_readCase_15 h_rd ((fr5 rd (by omega)).trans m_rd) rfl dX4_readCase_28 ?_
    refine q_get (v := .int (hv 5)) (fs := hallF ad h hv) X hK hP fX4_readCase_106 h_h ((fr5 h (by omega)).trans m_h) rfl dX4_readCase_31 ?_
    refine q_wrVi (As := [.int (hv 5)]) (rest := []) (c_X4_isTold l D cB cI cJ ad n M2 hI rd ta h en (nX en bf x) ln (uX en bf x nu) ft bf (hv 5) h_ta h_ta_1 h_rd g4 ((fr5 (ta + 1) (by omega)).trans m_ta_1) ((fr5 rd (by omega)).trans m_rd) (by first | (apply nX_le <;> (repeat' (first | assumption | apply nX_le))) | assumption | omega | (repeat' (first | assumption | apply nX_le | exact isN_k (by assumption) | exact isT_k (by assumption))) | exact vp_in_nI (by omega) (by decide)) hen srt) X hK hP hS hl.1 rfl gX4_readCase_X4_isTold yd_X4_isTold ⟨Nat.le_of_ble_eq_true rfl, Nat.le_of_ble_eq_true rfl⟩ h_rd ((fr5 rd (by omega)).trans m_rd) (ci := 4) rfl rfl (Nat.le_of_ble_eq_true rfl) ⟨Nat.zero_le _, Nat.zero_le _⟩ dX4_readCase_34 (fun r8 M7 H locs hp6 hP hS => ?_)
    obtain ⟨rfl, g9, fr10⟩ := hp6
    refine lv_if_eq (tgt := 118) hx hb dX4_readCase_37 (by decide) (fun c_37 => ?_) (fun c_37 => ?_)
    · skip
      have g11 : M7 rd = .inr (4, [.ref (ad ta), .ref (ad h), .int (fkT en (nX en bf x) bf)]) := by refine g9.trans ?_; simp only [pk0_t c_37]
      refine lv_iconst (v := 0) hx hb dX4_readCase_118 (by decide) ?_
      refine lv_istore_n (lv' := [(2, .int 0), (1, .int (hv 6)), (0, .ref (ad rd))]) hx hb dX4_readCase_119 rfl hl (by decide) rfl (fun ls hl => ?_)
      refine lv_iload_n hx hb dX4_readCase_120 rfl (lv_at hl 0 rfl) ?_
      refine lv_if_eq (tgt := 141) hx hb dX4_readCase_121 (by decide) (fun c_121 => ?_) (fun c_121 => ?_)
      · clear c_121
        refine lv_iconst (v := 0) hx hb dX4_readCase_141 (by decide) ?_
        refine lv_istore_n (lv' := [(3, .int 0), (2, .int 0), (1, .int (hv 6)), (0, .ref (ad rd))]) hx hb dX4_readCase_142 rfl hl (by decide) rfl (fun ls hl => ?_)
        refine lv_aload_n hx hb dX4_readCase_143 rfl (lv_at hl 3 rfl) ?_
        refine q_get (v := .ref (ad h)) (fs := [.ref (ad ta), .ref (ad h), .int (fkT en (nX en bf x) bf)]) X hK hP fX4_readCase_15 h_rd g11 rfl dX4_readCase_144 ?_
        refine q_get (v := .ref (ad (h + 3))) (fs := hallF ad h hv) X hK hP fX4_readCase_123 h_h ((fr10 h (by omega)).trans ((fr5 h (by omega)).trans m_h)) rfl dX4_readCase_147 ?_
        refine lv_iload_n hx hb dX4_readCase_150 rfl (lv_at hl 2 rfl) ?_
        refine lv_iconst (v := 4) hx hb dX4_readCase_151 (by decide) ?_
        refine lv_iload_n hx hb dX4_readCase_152 rfl (lv_at hl 0 rfl) ?_
        refine lv_if_eq (tgt := 160) hx hb dX4_readCase_153 (by decide) (fun c_153 => ?_) (fun c_153 => ?_)
        · clear c_153
          refine lv_iconst (v := 0) hx hb dX4_readCase_160 (by decide) ?_
          refine q_wrVv (As := [.int (hv 6), .int 4, .int 0]) (rest := []) (c_X8_set_ l D cB cI cJ ad n M7 hI (h + 3) (h + 4) 25 5 cf (hv 6) 4 0 h_h_3 h_h_4 ((fr10 (h + 3) (by omega)).trans ((fr5 (h + 3) (by omega)).trans m_h_3)) ((fr10 (h + 4) (by omega)).trans ((fr5 (h + 4) (by omega)).trans m_h_4)) (by decide)) X hK hP hS hl.1 rfl gX4_readCase_X8_set_ yd_X8_set_ ⟨Nat.le_of_ble_eq_true rfl, Nat.le_of_ble_eq_true rfl⟩ h_h_3 ((fr10 (h + 3) (by omega)).trans ((fr5 (h + 3) (by omega)).trans m_h_3)) (ci := 8) rfl rfl (Nat.le_of_ble_eq_true rfl) ⟨Nat.zero_le _, Nat.zero_le _⟩ dX4_readCase_161 (fun M13 H locs hp12 hP hS => ?_)
          obtain ⟨g15, fr16⟩ := hp12
          refine lv_iload_n hx hb dX4_readCase_164 rfl (lv_at hl 0 rfl) ?_
          refine lv_if_eq (tgt := 175) hx hb dX4_readCase_165 (by decide) (fun c_165 => ?_) (fun c_165 => ?_)
          · clear c_165
            refine lv_aload_n hx hb dX4_readCase_175 rfl (lv_at hl 3 rfl) ?_
            refine q_get (v := .ref (ad h)) (fs := [.ref (ad ta), .ref (ad h), .int (fkT en (nX en bf x) bf)]) X hK hP fX4_readCase_15 h_rd ((fr16 rd (by omega)).trans g11) rfl dX4_readCase_176 ?_
            refine lv_dup hx hb dX4_readCase_179 rfl ?_
            refine q_get (v := .int (hv 6)) (fs := hallF ad h hv) X hK hP fX4_readCase_117 h_h ((fr16 h (by omega)).trans ((fr10 h (by omega)).trans ((fr5 h (by omega)).trans m_h))) rfl dX4_readCase_180 ?_
            refine lv_iconst (v := 1) hx hb dX4_readCase_183 (by decide) ?_
            refine lv_iadd hx hb dX4_readCase_184 ?_
            refine q_put (fs := hallF ad h hv) (fs' := hallF ad h (upd hv 6 ((hv 6) + 1))) X hK hI hP hS fX4_readCase_117 fw_0_6 h_h ((fr16 h (by omega)).trans ((fr10 h (by omega)).trans ((fr5 h (by omega)).trans m_h))) rfl rfl (Nat.le_of_ble_eq_true rfl) rfl dX4_readCase_185 (fun H locs hP hS => ?_)
            refine lv_iload_n hx hb dX4_readCase_188 rfl (lv_at hl 1 rfl) ?_
            exact q_wzret X hr hlocks hP hS (rfl) ⟨(uX en bf x nu), (by rw [s_X4_readCase, if_pos c_10, if_pos c_37]), (by rw [s_X4_readCase_0_4, if_pos c_10, if_pos c_37]; exact ((va_up_ne M13 (.inr (0, hallF ad h (upd hv 6 ((hv 6) + 1)))) (show ta ≠ h by omega)).trans ((fr16 ta (by omega)).trans ((fr10 ta (by omega)).trans g4)))), (by rw [s_X4_readCase_1_2, if_pos c_10, if_pos c_37]; exact ((va_up_ne M13 (.inr (0, hallF ad h (upd hv 6 ((hv 6) + 1)))) (show rd ≠ h by omega)).trans ((fr16 rd (by omega)).trans g11))), (by rw [s_X4_readCase_2_1, if_pos c_10, if_pos c_37]; exact (va_up_self M13 h (.inr (0, hallF ad h (upd hv 6 ((hv 6) + 1)))))), (by rw [s_X4_readCase_3_f, if_pos c_10, if_pos c_37]; exact ((va_up_ne M13 (.inr (0, hallF ad h (upd hv 6 ((hv 6) + 1)))) (show h + 4 ≠ h by omega)).trans g15)), (fun q n0 n1 n2 n3 => ((va_up_ne _ _ n2).trans ((fr16 q n3).trans ((fr10 q n1).trans (fr5 q n0)))))⟩ dX4_readCase_189
          · exact absurd c_165 (by decide)
        · exact absurd c_153 (by decide)
      · exact absurd c_121 (by decide)
    · skip
      have g19 : M7 rd = .inr (4, [.ref (ad ta), .ref (ad h), .int ft]) := by refine g9.trans ?_; simp only [pk0_f c_37]
      refine lv_aload_n hx hb dX4_readCase_40 rfl (lv_at hl 1 rfl) ?_
      refine lv_aload_n hx hb dX4_readCase_41 rfl (lv_at hl 1 rfl) ?_
      refine q_get (v := .ref (ad h)) (fs := [.ref (ad ta), .ref (ad h), .int ft]) X hK hP fX4_readCase_15 h_rd g19 rfl dX4_readCase_42 ?_
      refine q_get (v := .ref (ad (h + 3))) (fs := hallF ad h hv) X hK hP fX4_readCase_123 h_h ((fr10 h (by omega)).trans ((fr5 h (by omega)).trans m_h)) rfl dX4_readCase_45 ?_
      refine lv_iload_n hx hb dX4_readCase_48 rfl (lv_at hl 0 rfl) ?_
      refine lv_iconst (v := 0) hx hb dX4_readCase_49 (by decide) ?_
      refine q_wrVi (As := [.ref (ad (h + 3)), .int (hv 6), .int 0]) (rest := []) (c_X4_takeNumber l D cB cI cJ ad n M7 hI rd ta h en (nX en bf x) ln (uX en bf x nu) ft bf 25 5 cf (h + 3) (hv 6) 0 h_ta h_ta_1 h_rd h_h_3 h_h_4 ((fr10 ta (by omega)).trans g4) ((fr10 (ta + 1) (by omega)).trans ((fr5 (ta + 1) (by omega)).trans m_ta_1)) g19 ((fr10 (h + 3) (by omega)).trans ((fr5 (h + 3) (by omega)).trans m_h_3)) ((fr10 (h + 4) (by omega)).trans ((fr5 (h + 4) (by omega)).trans m_h_4)) (by first | (apply nX_le <;> (repeat' (first | assumption | apply nX_le))) | assumption | omega | (repeat' (first | assumption | apply nX_le | exact isN_k (by assumption) | exact isT_k (by assumption))) | exact vp_in_nI (by omega) (by decide)) hen srt (by decide) (by first | (apply nX_le <;> (repeat' (first | assumption | apply nX_le))) | assumption | omega | (repeat' (first | assumption | apply nX_le | exact isN_k (by assumption) | exact isT_k (by assumption))) | exact vp_in_nI (by omega) (by decide)) (by first | (apply nX_le <;> (repeat' (first | assumption | apply nX_le))) | assumption | omega | (repeat' (first | assumption | apply nX_le | exact isN_k (by assumption) | exact isT_k (by assumption))) | exact vp_in_nI (by omega) (by decide)) (isT_k c_37)) X hK hP hS hl.1 rfl gX4_readCase_X4_takeNumber yd_X4_takeNumber ⟨Nat.le_of_ble_eq_true rfl, Nat.le_of_ble_eq_true rfl⟩ h_rd g19 (ci := 4) rfl rfl (Nat.le_of_ble_eq_true rfl) ⟨Nat.zero_le _, Nat.zero_le _⟩ dX4_readCase_50 (fun r22 M21 H locs hp20 hP hS => ?_)
      obtain ⟨v0_23, rfl, g24, g25, fr26⟩ := hp20
      refine lv_if_eq (tgt := 118) hx hb dX4_readCase_53 (by decide) (fun c_53 => ?_) (fun c_53 => ?_)
      · exact absurd c_53 (by decide)
      · clear c_53
        refine lv_aload_n hx hb dX4_readCase_56 rfl (lv_at hl 1 rfl) ?_
        refine lv_aload_n hx hb dX4_readCase_57 rfl (lv_at hl 1 rfl) ?_
        refine q_get (v := .ref (ad h)) (fs := [.ref (ad ta), .ref (ad h), .int ft]) X hK hP fX4_readCase_15 h_rd ((fr26 rd (by omega) (by omega)).trans g19) rfl dX4_readCase_58 ?_
        refine q_get (v := .ref (ad (h + 3))) (fs := hallF ad h hv) X hK hP fX4_readCase_123 h_h ((fr26 h (by omega) (by omega)).trans ((fr10 h (by omega)).trans ((fr5 h (by omega)).trans m_h))) rfl dX4_readCase_61 ?_
        refine lv_iload_n hx hb dX4_readCase_64 rfl (lv_at hl 0 rfl) ?_
        refine lv_iconst (v := 1) hx hb dX4_readCase_65 (by decide) ?_
        refine lv_iconst (v := 0) hx hb dX4_readCase_66 (by decide) ?_
        refine lv_sipush (v := 200) hx hb dX4_readCase_67 (by decide) ?_
        refine q_wrVi (As := [.ref (ad (h + 3)), .int (hv 6), .int 1, .int 0, .int 200]) (rest := []) (c_X4_readNumber l D cB cI cJ ad n M21 hI rd ta h en (nX en bf (nX en bf x)) ln v0_23 ft bf 25 5 (tset 25 cf ((hv 6) * 5 + 0) (nmX en bf (nX en bf x))) (h + 3) (hv 6) 1 0 200 h_ta h_ta_1 h_rd h_h_3 h_h_4 g24 ((fr26 (ta + 1) (by omega) (by omega)).trans ((fr10 (ta + 1) (by omega)).trans ((fr5 (ta + 1) (by omega)).trans m_ta_1))) ((fr26 rd (by omega) (by omega)).trans g19) ((fr26 (h + 3) (by omega) (by omega)).trans ((fr10 (h + 3) (by omega)).trans ((fr5 (h + 3) (by omega)).trans m_h_3))) g25 (by first | (apply nX_le <;> (repeat' (first | assumption | apply nX_le))) | assumption | omega | (repeat' (first | assumption | apply nX_le | exact isN_k (by assumption) | exact isT_k (by assumption))) | exact vp_in_nI (by omega) (by decide)) hen srt (by decide) (by first | (apply nX_le <;> (repeat' (first | assumption | apply nX_le))) | assumption | omega | (repeat' (first | assumption | apply nX_le | exact isN_k (by assumption) | exact isT_k (by assumption))) | exact vp_in_nI (by omega) (by decide)) (by first | (apply nX_le <;> (repeat' (first | assumption | apply nX_le))) | assumption | omega | (repeat' (first | assumption | apply nX_le | exact isN_k (by assumption) | exact isT_k (by assumption))) | exact vp_in_nI (by omega) (by decide))) X hK hP hS hl.1 rfl gX4_readCase_X4_readNumber yd_X4_readNumber ⟨Nat.le_of_ble_eq_true rfl, Nat.le_of_ble_eq_true rfl⟩ h_rd ((fr26 rd (by omega) (by omega)).trans g19) (ci := 4) rfl rfl (Nat.le_of_ble_eq_true rfl) ⟨Nat.zero_le _, Nat.zero_le _⟩ dX4_readCase_70 (fun r29 M28 H locs hp27 hP hS => ?_)
        obtain ⟨v0_30, rfl, g31, g32, g33, fr34⟩ := hp27
        refine lv_if_eq (tgt := 118) hx hb dX4_readCase_73 (by decide) (fun c_73 => ?_) (fun c_73 => ?_)
        · skip
          have g35 : M28 ta = .inr (9, tapeX ad ta ln en bf (nX en bf (nX en bf x)) v0_30) := by refine g31.trans ?_; simp only [pk0_t c_73]
          have g36 : M28 rd = .inr (4, [.ref (ad ta), .ref (ad h), .int (fkN en bf (nX en bf (nX en bf x)))]) := by refine g32.trans ?_; simp only [pk0_t c_73]
          have g37 : M28 (h + 4) = .inl (cI, 25, .inl (tset 25 cf ((hv 6) * 5 + 0) (nmX en bf (nX en bf x)))) := by refine g33.trans ?_; simp only [pk0_t c_73]
          refine lv_iconst (v := 0) hx hb dX4_readCase_118 (by decide) ?_
          refine lv_istore_n (lv' := [(2, .int 0), (1, .int (hv 6)), (0, .ref (ad rd))]) hx hb dX4_readCase_119 rfl hl (by decide) rfl (fun ls hl => ?_)
          refine lv_iload_n hx hb dX4_readCase_120 rfl (lv_at hl 0 rfl) ?_
          refine lv_if_eq (tgt := 141) hx hb dX4_readCase_121 (by decide) (fun c_121 => ?_) (fun c_121 => ?_)
          · clear c_121
            refine lv_iconst (v := 0) hx hb dX4_readCase_141 (by decide) ?_
            refine lv_istore_n (lv' := [(3, .int 0), (2, .int 0), (1, .int (hv 6)), (0, .ref (ad rd))]) hx hb dX4_readCase_142 rfl hl (by decide) rfl (fun ls hl => ?_)
            refine lv_aload_n hx hb dX4_readCase_143 rfl (lv_at hl 3 rfl) ?_
            refine q_get (v := .ref (ad h)) (fs := [.ref (ad ta), .ref (ad h), .int (fkN en bf (nX en bf (nX en bf x)))]) X hK hP fX4_readCase_15 h_rd g36 rfl dX4_readCase_144 ?_
            refine q_get (v := .ref (ad (h + 3))) (fs := hallF ad h hv) X hK hP fX4_readCase_123 h_h ((fr34 h (by omega) (by omega) (by omega)).trans ((fr26 h (by omega) (by omega)).trans ((fr10 h (by omega)).trans ((fr5 h (by omega)).trans m_h)))) rfl dX4_readCase_147 ?_
            refine lv_iload_n hx hb dX4_readCase_150 rfl (lv_at hl 2 rfl) ?_
            refine lv_iconst (v := 4) hx hb dX4_readCase_151 (by decide) ?_
            refine lv_iload_n hx hb dX4_readCase_152 rfl (lv_at hl 0 rfl) ?_
            refine lv_if_eq (tgt := 160) hx hb dX4_readCase_153 (by decide) (fun c_153 => ?_) (fun c_153 => ?_)
            · clear c_153
              refine lv_iconst (v := 0) hx hb dX4_readCase_160 (by decide) ?_
              refine q_wrVv (As := [.int (hv 6), .int 4, .int 0]) (rest := []) (c_X8_set_ l D cB cI cJ ad n M28 hI (h + 3) (h + 4) 25 5 (tset 25 cf ((hv 6) * 5 + 0) (nmX en bf (nX en bf x))) (hv 6) 4 0 h_h_3 h_h_4 ((fr34 (h + 3) (by omega) (by omega) (by omega)).trans ((fr26 (h + 3) (by omega) (by omega)).trans ((fr10 (h + 3) (by omega)).trans ((fr5 (h + 3) (by omega)).trans m_h_3)))) g37 (by decide)) X hK hP hS hl.1 rfl gX4_readCase_X8_set_ yd_X8_set_ ⟨Nat.le_of_ble_eq_true rfl, Nat.le_of_ble_eq_true rfl⟩ h_h_3 ((fr34 (h + 3) (by omega) (by omega) (by omega)).trans ((fr26 (h + 3) (by omega) (by omega)).trans ((fr10 (h + 3) (by omega)).trans ((fr5 (h + 3) (by omega)).trans m_h_3)))) (ci := 8) rfl rfl (Nat.le_of_ble_eq_true rfl) ⟨Nat.zero_le _, Nat.zero_le _⟩ dX4_readCase_161 (fun M39 H locs hp38 hP hS => ?_)
              obtain ⟨g41, fr42⟩ := hp38
              refine lv_iload_n hx hb dX4_readCase_164 rfl (lv_at hl 0 rfl) ?_
              refine lv_if_eq (tgt := 175) hx hb dX4_readCase_165 (by decide) (fun c_165 => ?_) (fun c_165 => ?_)
              · clear c_165
                refine lv_aload_n hx hb dX4_readCase_175 rfl (lv_at hl 3 rfl) ?_
                refine q_get (v := .ref (ad h)) (fs := [.ref (ad ta), .ref (ad h), .int (fkN en bf (nX en bf (nX en bf x)))]) X hK hP fX4_readCase_15 h_rd ((fr42 rd (by omega)).trans g36) rfl dX4_readCase_176 ?_
                refine lv_dup hx hb dX4_readCase_179 rfl ?_
                refine q_get (v := .int (hv 6)) (fs := hallF ad h hv) X hK hP fX4_readCase_117 h_h ((fr42 h (by omega)).trans ((fr34 h (by omega) (by omega) (by omega)).trans ((fr26 h (by omega) (by omega)).trans ((fr10 h (by omega)).trans ((fr5 h (by omega)).trans m_h))))) rfl dX4_readCase_180 ?_
                refine lv_iconst (v := 1) hx hb dX4_readCase_183 (by decide) ?_
                refine lv_iadd hx hb dX4_readCase_184 ?_
                refine q_put (fs := hallF ad h hv) (fs' := hallF ad h (upd hv 6 ((hv 6) + 1))) X hK hI hP hS fX4_readCase_117 fw_0_6 h_h ((fr42 h (by omega)).trans ((fr34 h (by omega) (by omega) (by omega)).trans ((fr26 h (by omega) (by omega)).trans ((fr10 h (by omega)).trans ((fr5 h (by omega)).trans m_h))))) rfl rfl (Nat.le_of_ble_eq_true rfl) rfl dX4_readCase_185 (fun H locs hP hS => ?_)
                refine lv_iload_n hx hb dX4_readCase_188 rfl (lv_at hl 1 rfl) ?_
                exact q_wzret X hr hlocks hP hS (rfl) ⟨v0_30, (by rw [s_X4_readCase, if_pos c_10, if_neg c_37, if_pos c_73]), (by rw [s_X4_readCase_0_4, if_pos c_10, if_neg c_37, if_pos c_73]; exact ((va_up_ne M39 (.inr (0, hallF ad h (upd hv 6 ((hv 6) + 1)))) (show ta ≠ h by omega)).trans ((fr42 ta (by omega)).trans g35))), (by rw [s_X4_readCase_1_2, if_pos c_10, if_neg c_37, if_pos c_73]; exact ((va_up_ne M39 (.inr (0, hallF ad h (upd hv 6 ((hv 6) + 1)))) (show rd ≠ h by omega)).trans ((fr42 rd (by omega)).trans g36))), (by rw [s_X4_readCase_2_1, if_pos c_10, if_neg c_37, if_pos c_73]; exact (va_up_self M39 h (.inr (0, hallF ad h (upd hv 6 ((hv 6) + 1)))))), (by rw [s_X4_readCase_3_f, if_pos c_10, if_neg c_37, if_pos c_73]; exact ((va_up_ne M39 (.inr (0, hallF ad h (upd hv 6 ((hv 6) + 1)))) (show h + 4 ≠ h by omega)).trans g41)), (fun q n0 n1 n2 n3 => ((va_up_ne _ _ n2).trans ((fr42 q n3).trans ((fr34 q n0 n1 n3).trans ((fr26 q n0 n3).trans ((fr10 q n1).trans (fr5 q n0)))))))⟩ dX4_readCase_189
              · exact absurd c_165 (by decide)
            · exact absurd c_153 (by decide)
          · exact absurd c_121 (by decide)
        · skip
          have g45 : M28 ta = .inr (9, tapeX ad ta ln en bf (nX en bf (nX en bf (nX en bf x))) v0_30) := by refine g31.trans ?_; simp only [pk0_f c_73]
          have g46 : M28 rd = .inr (4, [.ref (ad ta), .ref (ad h), .int ft]) := by refine g32.trans ?_; simp only [pk0_f c_73]
          have g47 : M28 (h + 4) = .inl (cI, 25, .inl (tset 25 (tset 25 cf ((hv 6) * 5 + 0) (nmX en bf (nX en bf x))) ((hv 6) * 5 + 1) (nmX en bf (nX en bf (nX en bf x))))) := by refine g33.trans ?_; simp only [pk0_f c_73]
          refine lv_aload_n hx hb dX4_readCase_76 rfl (lv_at hl 1 rfl) ?_
          refine lv_aload_n hx hb dX4_readCase_77 rfl (lv_at hl 1 rfl) ?_
          refine q_get (v := .ref (ad h)) (fs := [.ref (ad ta), .ref (ad h), .int ft]) X hK hP fX4_readCase_15 h_rd g46 rfl dX4_readCase_78 ?_
          refine q_get (v := .ref (ad (h + 3))) (fs := hallF ad h hv) X hK hP fX4_readCase_123 h_h ((fr34 h (by omega) (by omega) (by omega)).trans ((fr26 h (by omega) (by omega)).trans ((fr10 h (by omega)).trans ((fr5 h (by omega)).trans m_h)))) rfl dX4_readCase_81 ?_
          refine lv_iload_n hx hb dX4_readCase_84 rfl (lv_at hl 0 rfl) ?_
          refine lv_iconst (v := 2) hx hb dX4_readCase_85 (by decide) ?_
          refine lv_iconst (v := 0) hx hb dX4_readCase_86 (by decide) ?_
          refine lv_bipush (v := 60) hx hb dX4_readCase_87 (by decide) ?_
          refine q_wrVi (As := [.ref (ad (h + 3)), .int (hv 6), .int 2, .int 0, .int 60]) (rest := []) (c_X4_readNumber l D cB cI cJ ad n M28 hI rd ta h en (nX en bf (nX en bf (nX en bf x))) ln v0_30 ft bf 25 5 (tset 25 (tset 25 cf ((hv 6) * 5 + 0) (nmX en bf (nX en bf x))) ((hv 6) * 5 + 1) (nmX en bf (nX en bf (nX en bf x)))) (h + 3) (hv 6) 2 0 60 h_ta h_ta_1 h_rd h_h_3 h_h_4 g45 ((fr34 (ta + 1) (by omega) (by omega) (by omega)).trans ((fr26 (ta + 1) (by omega) (by omega)).trans ((fr10 (ta + 1) (by omega)).trans ((fr5 (ta + 1) (by omega)).trans m_ta_1)))) g46 ((fr34 (h + 3) (by omega) (by omega) (by omega)).trans ((fr26 (h + 3) (by omega) (by omega)).trans ((fr10 (h + 3) (by omega)).trans ((fr5 (h + 3) (by omega)).trans m_h_3)))) g47 (by first | (apply nX_le <;> (repeat' (first | assumption | apply nX_le))) | assumption | omega | (repeat' (first | assumption | apply nX_le | exact isN_k (by assumption) | exact isT_k (by assumption))) | exact vp_in_nI (by omega) (by decide)) hen srt (by decide) (by first | (apply nX_le <;> (repeat' (first | assumption | apply nX_le))) | assumption | omega | (repeat' (first | assumption | apply nX_le | exact isN_k (by assumption) | exact isT_k (by assumption))) | exact vp_in_nI (by omega) (by decide)) (by first | (apply nX_le <;> (repeat' (first | assumption | apply nX_le))) | assumption | omega | (repeat' (first | assumption | apply nX_le | exact isN_k (by assumption) | exact isT_k (by assumption))) | exact vp_in_nI (by omega) (by decide))) X hK hP hS hl.1 rfl gX4_readCase_X4_readNumber yd_X4_readNumber ⟨Nat.le_of_ble_eq_true rfl, Nat.le_of_ble_eq_true rfl⟩ h_rd g46 (ci := 4) rfl rfl (Nat.le_of_ble_eq_true rfl) ⟨Nat.zero_le _, Nat.zero_le _⟩ dX4_readCase_89 (fun r50 M49 H locs hp48 hP hS => ?_)
          obtain ⟨v0_51, rfl, g52, g53, g54, fr55⟩ := hp48
          refine lv_if_eq (tgt := 118) hx hb dX4_readCase_92 (by decide) (fun c_92 => ?_) (fun c_92 => ?_)
          · skip
            have g56 : M49 ta = .inr (9, tapeX ad ta ln en bf (nX en bf (nX en bf (nX en bf x))) v0_51) := by refine g52.trans ?_; simp only [pk0_t c_92]
            have g57 : M49 rd = .inr (4, [.ref (ad ta), .ref (ad h), .int (fkN en bf (nX en bf (nX en bf (nX en bf x))))]) := by refine g53.trans ?_; simp only [pk0_t c_92]
            have g58 : M49 (h + 4) = .inl (cI, 25, .inl (tset 25 (tset 25 cf ((hv 6) * 5 + 0) (nmX en bf (nX en bf x))) ((hv 6) * 5 + 1) (nmX en bf (nX en bf (nX en bf x))))) := by refine g54.trans ?_; simp only [pk0_t c_92]
            refine lv_iconst (v := 0) hx hb dX4_readCase_118 (by decide) ?_
            refine lv_istore_n (lv' := [(2, .int 0), (1, .int (hv 6)), (0, .ref (ad rd))]) hx hb dX4_readCase_119 rfl hl (by decide) rfl (fun ls hl => ?_)
            refine lv_iload_n hx hb dX4_readCase_120 rfl (lv_at hl 0 rfl) ?_
            refine lv_if_eq (tgt := 141) hx hb dX4_readCase_121 (by decide) (fun c_121 => ?_) (fun c_121 => ?_)
            · clear c_121
              refine lv_iconst (v := 0) hx hb dX4_readCase_141 (by decide) ?_
              refine lv_istore_n (lv' := [(3, .int 0), (2, .int 0), (1, .int (hv 6)), (0, .ref (ad rd))]) hx hb dX4_readCase_142 rfl hl (by decide) rfl (fun ls hl => ?_)
              refine lv_aload_n hx hb dX4_readCase_143 rfl (lv_at hl 3 rfl) ?_
              refine q_get (v := .ref (ad h)) (fs := [.ref (ad ta), .ref (ad h), .int (fkN en bf (nX en bf (nX en bf (nX en bf x))))]) X hK hP fX4_readCase_15 h_rd g57 rfl dX4_readCase_144 ?_
              refine q_get (v := .ref (ad (h + 3))) (fs := hallF ad h hv) X hK hP fX4_readCase_123 h_h ((fr55 h (by omega) (by omega) (by omega)).trans ((fr34 h (by omega) (by omega) (by omega)).trans ((fr26 h (by omega) (by omega)).trans ((fr10 h (by omega)).trans ((fr5 h (by omega)).trans m_h))))) rfl dX4_readCase_147 ?_
              refine lv_iload_n hx hb dX4_readCase_150 rfl (lv_at hl 2 rfl) ?_
              refine lv_iconst (v := 4) hx hb dX4_readCase_151 (by decide) ?_
              refine lv_iload_n hx hb dX4_readCase_152 rfl (lv_at hl 0 rfl) ?_
              refine lv_if_eq (tgt := 160) hx hb dX4_readCase_153 (by decide) (fun c_153 => ?_) (fun c_153 => ?_)
              · clear c_153
                refine lv_iconst (v := 0) hx hb dX4_readCase_160 (by decide) ?_
                refine q_wrVv (As := [.int (hv 6), .int 4, .int 0]) (rest := []) (c_X8_set_ l D cB cI cJ ad n M49 hI (h + 3) (h + 4) 25 5 (tset 25 (tset 25 cf ((hv 6) * 5 + 0) (nmX en bf (nX en bf x))) ((hv 6) * 5 + 1) (nmX en bf (nX en bf (nX en bf x)))) (hv 6) 4 0 h_h_3 h_h_4 ((fr55 (h + 3) (by omega) (by omega) (by omega)).trans ((fr34 (h + 3) (by omega) (by omega) (by omega)).trans ((fr26 (h + 3) (by omega) (by omega)).trans ((fr10 (h + 3) (by omega)).trans ((fr5 (h + 3) (by omega)).trans m_h_3))))) g58 (by decide)) X hK hP hS hl.1 rfl gX4_readCase_X8_set_ yd_X8_set_ ⟨Nat.le_of_ble_eq_true rfl, Nat.le_of_ble_eq_true rfl⟩ h_h_3 ((fr55 (h + 3) (by omega) (by omega) (by omega)).trans ((fr34 (h + 3) (by omega) (by omega) (by omega)).trans ((fr26 (h + 3) (by omega) (by omega)).trans ((fr10 (h + 3) (by omega)).trans ((fr5 (h + 3) (by omega)).trans m_h_3))))) (ci := 8) rfl rfl (Nat.le_of_ble_eq_true rfl) ⟨Nat.zero_le _, Nat.zero_le _⟩ dX4_readCase_161 (fun M60 H locs hp59 hP hS => ?_)
                obtain ⟨g62, fr63⟩ := hp59
                refine lv_iload_n hx hb dX4_readCase_164 rfl (lv_at hl 0 rfl) ?_
                refine lv_if_eq (tgt := 175) hx hb dX4_readCase_165 (by decide) (fun c_165 => ?_) (fun c_165 => ?_)
                · clear c_165
                  refine lv_aload_n hx hb dX4_readCase_175 rfl (lv_at hl 3 rfl) ?_
                  refine q_get (v := .ref (ad h)) (fs := [.ref (ad ta), .ref (ad h), .int (fkN en bf (nX en bf (nX en bf (nX en bf x))))]) X hK hP fX4_readCase_15 h_rd ((fr63 rd (by omega)).trans g57) rfl dX4_readCase_176 ?_
                  refine lv_dup hx hb dX4_readCase_179 rfl ?_
                  refine q_get (v := .int (hv 6)) (fs := hallF ad h hv) X hK hP fX4_readCase_117 h_h ((fr63 h (by omega)).trans ((fr55 h (by omega) (by omega) (by omega)).trans ((fr34 h (by omega) (by omega) (by omega)).trans ((fr26 h (by omega) (by omega)).trans ((fr10 h (by omega)).trans ((fr5 h (by omega)).trans m_h)))))) rfl dX4_readCase_180 ?_
                  refine lv_iconst (v := 1) hx hb dX4_readCase_183 (by decide) ?_
                  refine lv_iadd hx hb dX4_readCase_184 ?_
                  refine q_put (fs := hallF ad h hv) (fs' := hallF ad h (upd hv 6 ((hv 6) + 1))) X hK hI hP hS fX4_readCase_117 fw_0_6 h_h ((fr63 h (by omega)).trans ((fr55 h (by omega) (by omega) (by omega)).trans ((fr34 h (by omega) (by omega) (by omega)).trans ((fr26 h (by omega) (by omega)).trans ((fr10 h (by omega)).trans ((fr5 h (by omega)).trans m_h)))))) rfl rfl (Nat.le_of_ble_eq_true rfl) rfl dX4_readCase_185 (fun H locs hP hS => ?_)
                  refine lv_iload_n hx hb dX4_readCase_188 rfl (lv_at hl 1 rfl) ?_
                  exact q_wzret X hr hlocks hP hS (rfl) ⟨v0_51, (by rw [s_X4_readCase, if_pos c_10, if_neg c_37, if_neg c_73, if_pos c_92]), (by rw [s_X4_readCase_0_4, if_pos c_10, if_neg c_37, if_neg c_73, if_pos c_92]; exact ((va_up_ne M60 (.inr (0, hallF ad h (upd hv 6 ((hv 6) + 1)))) (show ta ≠ h by omega)).trans ((fr63 ta (by omega)).trans g56))), (by rw [s_X4_readCase_1_2, if_pos c_10, if_neg c_37, if_neg c_73, if_pos c_92]; exact ((va_up_ne M60 (.inr (0, hallF ad h (upd hv 6 ((hv 6) + 1)))) (show rd ≠ h by omega)).trans ((fr63 rd (by omega)).trans g57))), (by rw [s_X4_readCase_2_1, if_pos c_10, if_neg c_37, if_neg c_73, if_pos c_92]; exact (va_up_self M60 h (.inr (0, hallF ad h (upd hv 6 ((hv 6) + 1)))))), (by rw [s_X4_readCase_3_f, if_pos c_10, if_neg c_37, if_neg c_73, if_pos c_92]; exact ((va_up_ne M60 (.inr (0, hallF ad h (upd hv 6 ((hv 6) + 1)))) (show h + 4 ≠ h by omega)).trans g62)), (fun q n0 n1 n2 n3 => ((va_up_ne _ _ n2).trans ((fr63 q n3).trans ((fr55 q n0 n1 n3).trans ((fr34 q n0 n1 n3).trans ((fr26 q n0 n3).trans ((fr10 q n1).trans (fr5 q n0))))))))⟩ dX4_readCase_189
                · exact absurd c_165 (by decide)
              · exact absurd c_153 (by decide)
            · exact absurd c_121 (by decide)
          · skip
            have g66 : M49 ta = .inr (9, tapeX ad ta ln en bf (nX en bf (nX en bf (nX en bf (nX en bf x)))) v0_51) := by refine g52.trans ?_; simp only [pk0_f c_92]
            have g67 : M49 rd = .inr (4, [.ref (ad ta), .ref (ad h), .int ft]) := by refine g53.trans ?_; simp only [pk0_f c_92]
            have g68 : M49 (h + 4) = .inl (cI, 25, .inl (tset 25 (tset 25 (tset 25 cf ((hv 6) * 5 + 0) (nmX en bf (nX en bf x))) ((hv 6) * 5 + 1) (nmX en bf (nX en bf (nX en bf x)))) ((hv 6) * 5 + 2) (nmX en bf (nX en bf (nX en bf (nX en bf x)))))) := by refine g54.trans ?_; simp only [pk0_f c_92]
            refine lv_aload_n hx hb dX4_readCase_95 rfl (lv_at hl 1 rfl) ?_
            refine lv_aload_n hx hb dX4_readCase_96 rfl (lv_at hl 1 rfl) ?_
            refine q_get (v := .ref (ad h)) (fs := [.ref (ad ta), .ref (ad h), .int ft]) X hK hP fX4_readCase_15 h_rd g67 rfl dX4_readCase_97 ?_
            refine q_get (v := .ref (ad (h + 3))) (fs := hallF ad h hv) X hK hP fX4_readCase_123 h_h ((fr55 h (by omega) (by omega) (by omega)).trans ((fr34 h (by omega) (by omega) (by omega)).trans ((fr26 h (by omega) (by omega)).trans ((fr10 h (by omega)).trans ((fr5 h (by omega)).trans m_h))))) rfl dX4_readCase_100 ?_
            refine lv_iload_n hx hb dX4_readCase_103 rfl (lv_at hl 0 rfl) ?_
            refine lv_iconst (v := 3) hx hb dX4_readCase_104 (by decide) ?_
            refine lv_iconst (v := 0) hx hb dX4_readCase_105 (by decide) ?_
            refine lv_bipush (v := 99) hx hb dX4_readCase_106 (by decide) ?_
            refine q_wrVi (As := [.ref (ad (h + 3)), .int (hv 6), .int 3, .int 0, .int 99]) (rest := []) (c_X4_readNumber l D cB cI cJ ad n M49 hI rd ta h en (nX en bf (nX en bf (nX en bf (nX en bf x)))) ln v0_51 ft bf 25 5 (tset 25 (tset 25 (tset 25 cf ((hv 6) * 5 + 0) (nmX en bf (nX en bf x))) ((hv 6) * 5 + 1) (nmX en bf (nX en bf (nX en bf x)))) ((hv 6) * 5 + 2) (nmX en bf (nX en bf (nX en bf (nX en bf x))))) (h + 3) (hv 6) 3 0 99 h_ta h_ta_1 h_rd h_h_3 h_h_4 g66 ((fr55 (ta + 1) (by omega) (by omega) (by omega)).trans ((fr34 (ta + 1) (by omega) (by omega) (by omega)).trans ((fr26 (ta + 1) (by omega) (by omega)).trans ((fr10 (ta + 1) (by omega)).trans ((fr5 (ta + 1) (by omega)).trans m_ta_1))))) g67 ((fr55 (h + 3) (by omega) (by omega) (by omega)).trans ((fr34 (h + 3) (by omega) (by omega) (by omega)).trans ((fr26 (h + 3) (by omega) (by omega)).trans ((fr10 (h + 3) (by omega)).trans ((fr5 (h + 3) (by omega)).trans m_h_3))))) g68 (by first | (apply nX_le <;> (repeat' (first | assumption | apply nX_le))) | assumption | omega | (repeat' (first | assumption | apply nX_le | exact isN_k (by assumption) | exact isT_k (by assumption))) | exact vp_in_nI (by omega) (by decide)) hen srt (by decide) (by first | (apply nX_le <;> (repeat' (first | assumption | apply nX_le))) | assumption | omega | (repeat' (first | assumption | apply nX_le | exact isN_k (by assumption) | exact isT_k (by assumption))) | exact vp_in_nI (by omega) (by decide)) (by first | (apply nX_le <;> (repeat' (first | assumption | apply nX_le))) | assumption | omega | (repeat' (first | assumption | apply nX_le | exact isN_k (by assumption) | exact isT_k (by assumption))) | exact vp_in_nI (by omega) (by decide))) X hK hP hS hl.1 rfl gX4_readCase_X4_readNumber yd_X4_readNumber ⟨Nat.le_of_ble_eq_true rfl, Nat.le_of_ble_eq_true rfl⟩ h_rd g67 (ci := 4) rfl rfl (Nat.le_of_ble_eq_true rfl) ⟨Nat.zero_le _, Nat.zero_le _⟩ dX4_readCase_108 (fun r71 M70 H locs hp69 hP hS => ?_)
            obtain ⟨v0_72, rfl, g73, g74, g75, fr76⟩ := hp69
            refine lv_if_eq (tgt := 118) hx hb dX4_readCase_111 (by decide) (fun c_111 => ?_) (fun c_111 => ?_)
            · skip
              have g77 : M70 ta = .inr (9, tapeX ad ta ln en bf (nX en bf (nX en bf (nX en bf (nX en bf x)))) v0_72) := by refine g73.trans ?_; simp only [pk0_t c_111]
              have g78 : M70 rd = .inr (4, [.ref (ad ta), .ref (ad h), .int (fkN en bf (nX en bf (nX en bf (nX en bf (nX en bf x)))))]) := by refine g74.trans ?_; simp only [pk0_t c_111]
              have g79 : M70 (h + 4) = .inl (cI, 25, .inl (tset 25 (tset 25 (tset 25 cf ((hv 6) * 5 + 0) (nmX en bf (nX en bf x))) ((hv 6) * 5 + 1) (nmX en bf (nX en bf (nX en bf x)))) ((hv 6) * 5 + 2) (nmX en bf (nX en bf (nX en bf (nX en bf x)))))) := by refine g75.trans ?_; simp only [pk0_t c_111]
              refine lv_iconst (v := 0) hx hb dX4_readCase_118 (by decide) ?_
              refine lv_istore_n (lv' := [(2, .int 0), (1, .int (hv 6)), (0, .ref (ad rd))]) hx hb dX4_readCase_119 rfl hl (by decide) rfl (fun ls hl => ?_)
              refine lv_iload_n hx hb dX4_readCase_120 rfl (lv_at hl 0 rfl) ?_
              refine lv_if_eq (tgt := 141) hx hb dX4_readCase_121 (by decide) (fun c_121 => ?_) (fun c_121 => ?_)
              · clear c_121
                refine lv_iconst (v := 0) hx hb dX4_readCase_141 (by decide) ?_
                refine lv_istore_n (lv' := [(3, .int 0), (2, .int 0), (1, .int (hv 6)), (0, .ref (ad rd))]) hx hb dX4_readCase_142 rfl hl (by decide) rfl (fun ls hl => ?_)
                refine lv_aload_n hx hb dX4_readCase_143 rfl (lv_at hl 3 rfl) ?_
                refine q_get (v := .ref (ad h)) (fs := [.ref (ad ta), .ref (ad h), .int (fkN en bf (nX en bf (nX en bf (nX en bf (nX en bf x)))))]) X hK hP fX4_readCase_15 h_rd g78 rfl dX4_readCase_144 ?_
                refine q_get (v := .ref (ad (h + 3))) (fs := hallF ad h hv) X hK hP fX4_readCase_123 h_h ((fr76 h (by omega) (by omega) (by omega)).trans ((fr55 h (by omega) (by omega) (by omega)).trans ((fr34 h (by omega) (by omega) (by omega)).trans ((fr26 h (by omega) (by omega)).trans ((fr10 h (by omega)).trans ((fr5 h (by omega)).trans m_h)))))) rfl dX4_readCase_147 ?_
                refine lv_iload_n hx hb dX4_readCase_150 rfl (lv_at hl 2 rfl) ?_
                refine lv_iconst (v := 4) hx hb dX4_readCase_151 (by decide) ?_
                refine lv_iload_n hx hb dX4_readCase_152 rfl (lv_at hl 0 rfl) ?_
                refine lv_if_eq (tgt := 160) hx hb dX4_readCase_153 (by decide) (fun c_153 => ?_) (fun c_153 => ?_)
                · clear c_153
                  refine lv_iconst (v := 0) hx hb dX4_readCase_160 (by decide) ?_
                  refine q_wrVv (As := [.int (hv 6), .int 4, .int 0]) (rest := []) (c_X8_set_ l D cB cI cJ ad n M70 hI (h + 3) (h + 4) 25 5 (tset 25 (tset 25 (tset 25 cf ((hv 6) * 5 + 0) (nmX en bf (nX en bf x))) ((hv 6) * 5 + 1) (nmX en bf (nX en bf (nX en bf x)))) ((hv 6) * 5 + 2) (nmX en bf (nX en bf (nX en bf (nX en bf x))))) (hv 6) 4 0 h_h_3 h_h_4 ((fr76 (h + 3) (by omega) (by omega) (by omega)).trans ((fr55 (h + 3) (by omega) (by omega) (by omega)).trans ((fr34 (h + 3) (by omega) (by omega) (by omega)).trans ((fr26 (h + 3) (by omega) (by omega)).trans ((fr10 (h + 3) (by omega)).trans ((fr5 (h + 3) (by omega)).trans m_h_3)))))) g79 (by decide)) X hK hP hS hl.1 rfl gX4_readCase_X8_set_ yd_X8_set_ ⟨Nat.le_of_ble_eq_true rfl, Nat.le_of_ble_eq_true rfl⟩ h_h_3 ((fr76 (h + 3) (by omega) (by omega) (by omega)).trans ((fr55 (h + 3) (by omega) (by omega) (by omega)).trans ((fr34 (h + 3) (by omega) (by omega) (by omega)).trans ((fr26 (h + 3) (by omega) (by omega)).trans ((fr10 (h + 3) (by omega)).trans ((fr5 (h + 3) (by omega)).trans m_h_3)))))) (ci := 8) rfl rfl (Nat.le_of_ble_eq_true rfl) ⟨Nat.zero_le _, Nat.zero_le _⟩ dX4_readCase_161 (fun M81 H locs hp80 hP hS => ?_)
                  obtain ⟨g83, fr84⟩ := hp80
                  refine lv_iload_n hx hb dX4_readCase_164 rfl (lv_at hl 0 rfl) ?_
                  refine lv_if_eq (tgt := 175) hx hb dX4_readCase_165 (by decide) (fun c_165 => ?_) (fun c_165 => ?_)
                  · clear c_165
                    refine lv_aload_n hx hb dX4_readCase_175 rfl (lv_at hl 3 rfl) ?_
                    refine q_get (v := .ref (ad h)) (fs := [.ref (ad ta), .ref (ad h), .int (fkN en bf (nX en bf (nX en bf (nX en bf (nX en bf x)))))]) X hK hP fX4_readCase_15 h_rd ((fr84 rd (by omega)).trans g78) rfl dX4_readCase_176 ?_
                    refine lv_dup hx hb dX4_readCase_179 rfl ?_
                    refine q_get (v := .int (hv 6)) (fs := hallF ad h hv) X hK hP fX4_readCase_117 h_h ((fr84 h (by omega)).trans ((fr76 h (by omega) (by omega) (by omega)).trans ((fr55 h (by omega) (by omega) (by omega)).trans ((fr34 h (by omega) (by omega) (by omega)).trans ((fr26 h (by omega) (by omega)).trans ((fr10 h (by omega)).trans ((fr5 h (by omega)).trans m_h))))))) rfl dX4_readCase_180 ?_
                    refine lv_iconst (v := 1) hx hb dX4_readCase_183 (by decide) ?_
                    refine lv_iadd hx hb dX4_readCase_184 ?_
                    refine q_put (fs := hallF ad h hv) (fs' := hallF ad h (upd hv 6 ((hv 6) + 1))) X hK hI hP hS fX4_readCase_117 fw_0_6 h_h ((fr84 h (by omega)).trans ((fr76 h (by omega) (by omega) (by omega)).trans ((fr55 h (by omega) (by omega) (by omega)).trans ((fr34 h (by omega) (by omega) (by omega)).trans ((fr26 h (by omega) (by omega)).trans ((fr10 h (by omega)).trans ((fr5 h (by omega)).trans m_h))))))) rfl rfl (Nat.le_of_ble_eq_true rfl) rfl dX4_readCase_185 (fun H locs hP hS => ?_)
                    refine lv_iload_n hx hb dX4_readCase_188 rfl (lv_at hl 1 rfl) ?_
                    exact q_wzret X hr hlocks hP hS (rfl) ⟨v0_72, (by rw [s_X4_readCase, if_pos c_10, if_neg c_37, if_neg c_73, if_neg c_92, if_pos c_111]), (by rw [s_X4_readCase_0_4, if_pos c_10, if_neg c_37, if_neg c_73, if_neg c_92, if_pos c_111]; exact ((va_up_ne M81 (.inr (0, hallF ad h (upd hv 6 ((hv 6) + 1)))) (show ta ≠ h by omega)).trans ((fr84 ta (by omega)).trans g77))), (by rw [s_X4_readCase_1_2, if_pos c_10, if_neg c_37, if_neg c_73, if_neg c_92, if_pos c_111]; exact ((va_up_ne M81 (.inr (0, hallF ad h (upd hv 6 ((hv 6) + 1)))) (show rd ≠ h by omega)).trans ((fr84 rd (by omega)).trans g78))), (by rw [s_X4_readCase_2_1, if_pos c_10, if_neg c_37, if_neg c_73, if_neg c_92, if_pos c_111]; exact (va_up_self M81 h (.inr (0, hallF ad h (upd hv 6 ((hv 6) + 1)))))), (by rw [s_X4_readCase_3_f, if_pos c_10, if_neg c_37, if_neg c_73, if_neg c_92, if_pos c_111]; exact ((va_up_ne M81 (.inr (0, hallF ad h (upd hv 6 ((hv 6) + 1)))) (show h + 4 ≠ h by omega)).trans g83)), (fun q n0 n1 n2 n3 => ((va_up_ne _ _ n2).trans ((fr84 q n3).trans ((fr76 q n0 n1 n3).trans ((fr55 q n0 n1 n3).trans ((fr34 q n0 n1 n3).trans ((fr26 q n0 n3).trans ((fr10 q n1).trans (fr5 q n0)))))))))⟩ dX4_readCase_189
                  · exact absurd c_165 (by decide)
                · exact absurd c_153 (by decide)
              · exact absurd c_121 (by decide)
            · skip
              have g87 : M70 ta = .inr (9, tapeX ad ta ln en bf (nX en bf (nX en bf (nX en bf (nX en bf (nX en bf x))))) v0_72) := by refine g73.trans ?_; simp only [pk0_f c_111]
              have g88 : M70 rd = .inr (4, [.ref (ad ta), .ref (ad h), .int ft]) := by refine g74.trans ?_; simp only [pk0_f c_111]
              have g89 : M70 (h + 4) = .inl (cI, 25, .inl (tset 25 (tset 25 (tset 25 (tset 25 cf ((hv 6) * 5 + 0) (nmX en bf (nX en bf x))) ((hv 6) * 5 + 1) (nmX en bf (nX en bf (nX en bf x)))) ((hv 6) * 5 + 2) (nmX en bf (nX en bf (nX en bf (nX en bf x))))) ((hv 6) * 5 + 3) (nmX en bf (nX en bf (nX en bf (nX en bf (nX en bf x))))))) := by refine g75.trans ?_; simp only [pk0_f c_111]
              refine lv_iconst (v := 1) hx hb dX4_readCase_114 (by decide) ?_
              refine lv_goto (tgt := 119) hx hb dX4_readCase_115 (by decide) ?_
              refine lv_istore_n (lv' := [(2, .int 1), (1, .int (hv 6)), (0, .ref (ad rd))]) hx hb dX4_readCase_119 rfl hl (by decide) rfl (fun ls hl => ?_)
              refine lv_iload_n hx hb dX4_readCase_120 rfl (lv_at hl 0 rfl) ?_
              refine lv_if_eq (tgt := 141) hx hb dX4_readCase_121 (by decide) (fun c_121 => ?_) (fun c_121 => ?_)
              · exact absurd c_121 (by decide)
              · clear c_121
                refine lv_aload_n hx hb dX4_readCase_124 rfl (lv_at hl 2 rfl) ?_
                refine q_get (v := .ref (ad ta)) (fs := [.ref (ad ta), .ref (ad h), .int ft]) X hK hP fX4_readCase_9 h_rd g88 rfl dX4_readCase_125 ?_
                refine q_get (v := .ref (ad (1000 + (wX en bf (nX en bf (nX en bf (nX en bf (nX en bf (nX en bf x))))))))) (fs := tapeX ad ta ln en bf (nX en bf (nX en bf (nX en bf (nX en bf (nX en bf x))))) v0_72) X hK hP fX4_readCase_44 h_ta g87 rfl dX4_readCase_128 ?_
                refine q_gsE (i := 3) (nm := "BOARD") X hK hS (by decide) rfl (by decide +kernel) dX4_readCase_131 ?_
                refine q_acmp_ne (i := (wX en bf (nX en bf (nX en bf (nX en bf (nX en bf (nX en bf x))))))) (j := 3) (tgt := 141) X hK (by first | omega | assumption | exact fwS_lt .. | exact wX_lt ..) (by decide) dX4_readCase_134 (by decide) (fun c_134 => ?_) (fun c_134 => ?_)
                · skip
                  refine lv_iconst (v := 0) hx hb dX4_readCase_141 (by decide) ?_
                  refine lv_istore_n (lv' := [(3, .int 0), (2, .int 1), (1, .int (hv 6)), (0, .ref (ad rd))]) hx hb dX4_readCase_142 rfl hl (by decide) rfl (fun ls hl => ?_)
                  refine lv_aload_n hx hb dX4_readCase_143 rfl (lv_at hl 3 rfl) ?_
                  refine q_get (v := .ref (ad h)) (fs := [.ref (ad ta), .ref (ad h), .int ft]) X hK hP fX4_readCase_15 h_rd g88 rfl dX4_readCase_144 ?_
                  refine q_get (v := .ref (ad (h + 3))) (fs := hallF ad h hv) X hK hP fX4_readCase_123 h_h ((fr76 h (by omega) (by omega) (by omega)).trans ((fr55 h (by omega) (by omega) (by omega)).trans ((fr34 h (by omega) (by omega) (by omega)).trans ((fr26 h (by omega) (by omega)).trans ((fr10 h (by omega)).trans ((fr5 h (by omega)).trans m_h)))))) rfl dX4_readCase_147 ?_
                  refine lv_iload_n hx hb dX4_readCase_150 rfl (lv_at hl 2 rfl) ?_
                  refine lv_iconst (v := 4) hx hb dX4_readCase_151 (by decide) ?_
                  refine lv_iload_n hx hb dX4_readCase_152 rfl (lv_at hl 0 rfl) ?_
                  refine lv_if_eq (tgt := 160) hx hb dX4_readCase_153 (by decide) (fun c_153 => ?_) (fun c_153 => ?_)
                  · clear c_153
                    refine lv_iconst (v := 0) hx hb dX4_readCase_160 (by decide) ?_
                    refine q_wrVv (As := [.int (hv 6), .int 4, .int 0]) (rest := []) (c_X8_set_ l D cB cI cJ ad n M70 hI (h + 3) (h + 4) 25 5 (tset 25 (tset 25 (tset 25 (tset 25 cf ((hv 6) * 5 + 0) (nmX en bf (nX en bf x))) ((hv 6) * 5 + 1) (nmX en bf (nX en bf (nX en bf x)))) ((hv 6) * 5 + 2) (nmX en bf (nX en bf (nX en bf (nX en bf x))))) ((hv 6) * 5 + 3) (nmX en bf (nX en bf (nX en bf (nX en bf (nX en bf x)))))) (hv 6) 4 0 h_h_3 h_h_4 ((fr76 (h + 3) (by omega) (by omega) (by omega)).trans ((fr55 (h + 3) (by omega) (by omega) (by omega)).trans ((fr34 (h + 3) (by omega) (by omega) (by omega)).trans ((fr26 (h + 3) (by omega) (by omega)).trans ((fr10 (h + 3) (by omega)).trans ((fr5 (h + 3) (by omega)).trans m_h_3)))))) g89 (by decide)) X hK hP hS hl.1 rfl gX4_readCase_X8_set_ yd_X8_set_ ⟨Nat.le_of_ble_eq_true rfl, Nat.le_of_ble_eq_true rfl⟩ h_h_3 ((fr76 (h + 3) (by omega) (by omega) (by omega)).trans ((fr55 (h + 3) (by omega) (by omega) (by omega)).trans ((fr34 (h + 3) (by omega) (by omega) (by omega)).trans ((fr26 (h + 3) (by omega) (by omega)).trans ((fr10 (h + 3) (by omega)).trans ((fr5 (h + 3) (by omega)).trans m_h_3)))))) (ci := 8) rfl rfl (Nat.le_of_ble_eq_true rfl) ⟨Nat.zero_le _, Nat.zero_le _⟩ dX4_readCase_161 (fun M91 H locs hp90 hP hS => ?_)
                    obtain ⟨g93, fr94⟩ := hp90
                    refine lv_iload_n hx hb dX4_readCase_164 rfl (lv_at hl 0 rfl) ?_
                    refine lv_if_eq (tgt := 175) hx hb dX4_readCase_165 (by decide) (fun c_165 => ?_) (fun c_165 => ?_)
                    · clear c_165
                      refine lv_aload_n hx hb dX4_readCase_175 rfl (lv_at hl 3 rfl) ?_
                      refine q_get (v := .ref (ad h)) (fs := [.ref (ad ta), .ref (ad h), .int ft]) X hK hP fX4_readCase_15 h_rd ((fr94 rd (by omega)).trans g88) rfl dX4_readCase_176 ?_
                      refine lv_dup hx hb dX4_readCase_179 rfl ?_
                      refine q_get (v := .int (hv 6)) (fs := hallF ad h hv) X hK hP fX4_readCase_117 h_h ((fr94 h (by omega)).trans ((fr76 h (by omega) (by omega) (by omega)).trans ((fr55 h (by omega) (by omega) (by omega)).trans ((fr34 h (by omega) (by omega) (by omega)).trans ((fr26 h (by omega) (by omega)).trans ((fr10 h (by omega)).trans ((fr5 h (by omega)).trans m_h))))))) rfl dX4_readCase_180 ?_
                      refine lv_iconst (v := 1) hx hb dX4_readCase_183 (by decide) ?_
                      refine lv_iadd hx hb dX4_readCase_184 ?_
                      refine q_put (fs := hallF ad h hv) (fs' := hallF ad h (upd hv 6 ((hv 6) + 1))) X hK hI hP hS fX4_readCase_117 fw_0_6 h_h ((fr94 h (by omega)).trans ((fr76 h (by omega) (by omega) (by omega)).trans ((fr55 h (by omega) (by omega) (by omega)).trans ((fr34 h (by omega) (by omega) (by omega)).trans ((fr26 h (by omega) (by omega)).trans ((fr10 h (by omega)).trans ((fr5 h (by omega)).trans m_h))))))) rfl rfl (Nat.le_of_ble_eq_true rfl) rfl dX4_readCase_185 (fun H locs hP hS => ?_)
                      refine lv_iload_n hx hb dX4_readCase_188 rfl (lv_at hl 1 rfl) ?_
                      exact q_wzret X hr hlocks hP hS (rfl) ⟨v0_72, (by rw [s_X4_readCase, if_pos c_10, if_neg c_37, if_neg c_73, if_neg c_92, if_neg c_111, if_neg c_134]), (by rw [s_X4_readCase_0_4, if_pos c_10, if_neg c_37, if_neg c_73, if_neg c_92, if_neg c_111, if_neg c_134]; exact ((va_up_ne M91 (.inr (0, hallF ad h (upd hv 6 ((hv 6) + 1)))) (show ta ≠ h by omega)).trans ((fr94 ta (by omega)).trans g87))), (by rw [s_X4_readCase_1_2, if_pos c_10, if_neg c_37, if_neg c_73, if_neg c_92, if_neg c_111, if_neg c_134]; exact ((va_up_ne M91 (.inr (0, hallF ad h (upd hv 6 ((hv 6) + 1)))) (show rd ≠ h by omega)).trans ((fr94 rd (by omega)).trans g88))), (by rw [s_X4_readCase_2_1, if_pos c_10, if_neg c_37, if_neg c_73, if_neg c_92, if_neg c_111, if_neg c_134]; exact (va_up_self M91 h (.inr (0, hallF ad h (upd hv 6 ((hv 6) + 1)))))), (by rw [s_X4_readCase_3_f, if_pos c_10, if_neg c_37, if_neg c_73, if_neg c_92, if_neg c_111, if_neg c_134]; exact ((va_up_ne M91 (.inr (0, hallF ad h (upd hv 6 ((hv 6) + 1)))) (show h + 4 ≠ h by omega)).trans g93)), (fun q n0 n1 n2 n3 => ((va_up_ne _ _ n2).trans ((fr94 q n3).trans ((fr76 q n0 n1 n3).trans ((fr55 q n0 n1 n3).trans ((fr34 q n0 n1 n3).trans ((fr26 q n0 n3).trans ((fr10 q n1).trans (fr5 q n0)))))))))⟩ dX4_readCase_189
                    · exact absurd c_165 (by decide)
                  · exact absurd c_153 (by decide)
                · skip
                  refine lv_iconst (v := 1) hx hb dX4_readCase_137 (by decide) ?_
                  refine lv_goto (tgt := 142) hx hb dX4_readCase_138 (by decide) ?_
                  refine lv_istore_n (lv' := [(3, .int 1), (2, .int 1), (1, .int (hv 6)), (0, .ref (ad rd))]) hx hb dX4_readCase_142 rfl hl (by decide) rfl (fun ls hl => ?_)
                  refine lv_aload_n hx hb dX4_readCase_143 rfl (lv_at hl 3 rfl) ?_
                  refine q_get (v := .ref (ad h)) (fs := [.ref (ad ta), .ref (ad h), .int ft]) X hK hP fX4_readCase_15 h_rd g88 rfl dX4_readCase_144 ?_
                  refine q_get (v := .ref (ad (h + 3))) (fs := hallF ad h hv) X hK hP fX4_readCase_123 h_h ((fr76 h (by omega) (by omega) (by omega)).trans ((fr55 h (by omega) (by omega) (by omega)).trans ((fr34 h (by omega) (by omega) (by omega)).trans ((fr26 h (by omega) (by omega)).trans ((fr10 h (by omega)).trans ((fr5 h (by omega)).trans m_h)))))) rfl dX4_readCase_147 ?_
                  refine lv_iload_n hx hb dX4_readCase_150 rfl (lv_at hl 2 rfl) ?_
                  refine lv_iconst (v := 4) hx hb dX4_readCase_151 (by decide) ?_
                  refine lv_iload_n hx hb dX4_readCase_152 rfl (lv_at hl 0 rfl) ?_
                  refine lv_if_eq (tgt := 160) hx hb dX4_readCase_153 (by decide) (fun c_153 => ?_) (fun c_153 => ?_)
                  · exact absurd c_153 (by decide)
                  · clear c_153
                    refine lv_iconst (v := 1) hx hb dX4_readCase_156 (by decide) ?_
                    refine lv_goto (tgt := 161) hx hb dX4_readCase_157 (by decide) ?_
                    refine q_wrVv (As := [.int (hv 6), .int 4, .int 1]) (rest := []) (c_X8_set_ l D cB cI cJ ad n M70 hI (h + 3) (h + 4) 25 5 (tset 25 (tset 25 (tset 25 (tset 25 cf ((hv 6) * 5 + 0) (nmX en bf (nX en bf x))) ((hv 6) * 5 + 1) (nmX en bf (nX en bf (nX en bf x)))) ((hv 6) * 5 + 2) (nmX en bf (nX en bf (nX en bf (nX en bf x))))) ((hv 6) * 5 + 3) (nmX en bf (nX en bf (nX en bf (nX en bf (nX en bf x)))))) (hv 6) 4 1 h_h_3 h_h_4 ((fr76 (h + 3) (by omega) (by omega) (by omega)).trans ((fr55 (h + 3) (by omega) (by omega) (by omega)).trans ((fr34 (h + 3) (by omega) (by omega) (by omega)).trans ((fr26 (h + 3) (by omega) (by omega)).trans ((fr10 (h + 3) (by omega)).trans ((fr5 (h + 3) (by omega)).trans m_h_3)))))) g89 (by decide)) X hK hP hS hl.1 rfl gX4_readCase_X8_set_ yd_X8_set_ ⟨Nat.le_of_ble_eq_true rfl, Nat.le_of_ble_eq_true rfl⟩ h_h_3 ((fr76 (h + 3) (by omega) (by omega) (by omega)).trans ((fr55 (h + 3) (by omega) (by omega) (by omega)).trans ((fr34 (h + 3) (by omega) (by omega) (by omega)).trans ((fr26 (h + 3) (by omega) (by omega)).trans ((fr10 (h + 3) (by omega)).trans ((fr5 (h + 3) (by omega)).trans m_h_3)))))) (ci := 8) rfl rfl (Nat.le_of_ble_eq_true rfl) ⟨Nat.zero_le _, Nat.zero_le _⟩ dX4_readCase_161 (fun M98 H locs hp97 hP hS => ?_)
                    obtain ⟨g100, fr101⟩ := hp97
                    refine lv_iload_n hx hb dX4_readCase_164 rfl (lv_at hl 0 rfl) ?_
                    refine lv_if_eq (tgt := 175) hx hb dX4_readCase_165 (by decide) (fun c_165 => ?_) (fun c_165 => ?_)
                    · exact absurd c_165 (by decide)
                    · clear c_165
                      refine lv_aload_n hx hb dX4_readCase_168 rfl (lv_at hl 3 rfl) ?_
                      refine q_get (v := .ref (ad ta)) (fs := [.ref (ad ta), .ref (ad h), .int ft]) X hK hP fX4_readCase_9 h_rd ((fr101 rd (by omega)).trans g88) rfl dX4_readCase_169 ?_
                      refine q_wrVv (As := []) (rest := []) (c_X9_adv l D cB cI cJ ad n M98 hI ta en (nX en bf (nX en bf (nX en bf (nX en bf (nX en bf x))))) ln v0_72 bf h_ta h_ta_1 ((fr101 ta (by omega)).trans g87) ((fr101 (ta + 1) (by omega)).trans ((fr76 (ta + 1) (by omega) (by omega) (by omega)).trans ((fr55 (ta + 1) (by omega) (by omega) (by omega)).trans ((fr34 (ta + 1) (by omega) (by omega) (by omega)).trans ((fr26 (ta + 1) (by omega) (by omega)).trans ((fr10 (ta + 1) (by omega)).trans ((fr5 (ta + 1) (by omega)).trans m_ta_1))))))) (by first | (apply nX_le <;> (repeat' (first | assumption | apply nX_le))) | assumption | omega | (repeat' (first | assumption | apply nX_le | exact isN_k (by assumption) | exact isT_k (by assumption))) | exact vp_in_nI (by omega) (by decide)) hen) X hK hP hS hl.1 rfl gX4_readCase_X9_advance yd_X9_advance ⟨Nat.le_of_ble_eq_true rfl, Nat.le_of_ble_eq_true rfl⟩ h_ta ((fr101 ta (by omega)).trans g87) (ci := 9) rfl rfl (Nat.le_of_ble_eq_true rfl) ⟨Nat.zero_le _, Nat.zero_le _⟩ dX4_readCase_172 (fun M103 H locs hp102 hP hS => ?_)
                      obtain ⟨g105, fr106⟩ := hp102
                      refine lv_aload_n hx hb dX4_readCase_175 rfl (lv_at hl 3 rfl) ?_
                      refine q_get (v := .ref (ad h)) (fs := [.ref (ad ta), .ref (ad h), .int ft]) X hK hP fX4_readCase_15 h_rd ((fr106 rd (by omega)).trans ((fr101 rd (by omega)).trans g88)) rfl dX4_readCase_176 ?_
                      refine lv_dup hx hb dX4_readCase_179 rfl ?_
                      refine q_get (v := .int (hv 6)) (fs := hallF ad h hv) X hK hP fX4_readCase_117 h_h ((fr106 h (by omega)).trans ((fr101 h (by omega)).trans ((fr76 h (by omega) (by omega) (by omega)).trans ((fr55 h (by omega) (by omega) (by omega)).trans ((fr34 h (by omega) (by omega) (by omega)).trans ((fr26 h (by omega) (by omega)).trans ((fr10 h (by omega)).trans ((fr5 h (by omega)).trans m_h)))))))) rfl dX4_readCase_180 ?_
                      refine lv_iconst (v := 1) hx hb dX4_readCase_183 (by decide) ?_
                      refine lv_iadd hx hb dX4_readCase_184 ?_
                      refine q_put (fs := hallF ad h hv) (fs' := hallF ad h (upd hv 6 ((hv 6) + 1))) X hK hI hP hS fX4_readCase_117 fw_0_6 h_h ((fr106 h (by omega)).trans ((fr101 h (by omega)).trans ((fr76 h (by omega) (by omega) (by omega)).trans ((fr55 h (by omega) (by omega) (by omega)).trans ((fr34 h (by omega) (by omega) (by omega)).trans ((fr26 h (by omega) (by omega)).trans ((fr10 h (by omega)).trans ((fr5 h (by omega)).trans m_h)))))))) rfl rfl (Nat.le_of_ble_eq_true rfl) rfl dX4_readCase_185 (fun H locs hP hS => ?_)
                      refine lv_iload_n hx hb dX4_readCase_188 rfl (lv_at hl 1 rfl) ?_
                      exact q_wzret X hr hlocks hP hS (rfl) ⟨(uX en bf (nX en bf (nX en bf (nX en bf (nX en bf (nX en bf x))))) v0_72), (by rw [s_X4_readCase, if_pos c_10, if_neg c_37, if_neg c_73, if_neg c_92, if_neg c_111, if_pos c_134]), (by rw [s_X4_readCase_0_4, if_pos c_10, if_neg c_37, if_neg c_73, if_neg c_92, if_neg c_111, if_pos c_134]; exact ((va_up_ne M103 (.inr (0, hallF ad h (upd hv 6 ((hv 6) + 1)))) (show ta ≠ h by omega)).trans g105)), (by rw [s_X4_readCase_1_2, if_pos c_10, if_neg c_37, if_neg c_73, if_neg c_92, if_neg c_111, if_pos c_134]; exact ((va_up_ne M103 (.inr (0, hallF ad h (upd hv 6 ((hv 6) + 1)))) (show rd ≠ h by omega)).trans ((fr106 rd (by omega)).trans ((fr101 rd (by omega)).trans g88)))), (by rw [s_X4_readCase_2_1, if_pos c_10, if_neg c_37, if_neg c_73, if_neg c_92, if_neg c_111, if_pos c_134]; exact (va_up_self M103 h (.inr (0, hallF ad h (upd hv 6 ((hv 6) + 1)))))), (by rw [s_X4_readCase_3_f, if_pos c_10, if_neg c_37, if_neg c_73, if_neg c_92, if_neg c_111, if_pos c_134]; exact ((va_up_ne M103 (.inr (0, hallF ad h (upd hv 6 ((hv 6) + 1)))) (show h + 4 ≠ h by omega)).trans ((fr106 (h + 4) (by omega)).trans g100))), (fun q n0 n1 n2 n3 => ((va_up_ne _ _ n2).trans ((fr106 q n0).trans ((fr101 q n3).trans ((fr76 q n0 n1 n3).trans ((fr55 q n0 n1 n3).trans ((fr34 q n0 n1 n3).trans ((fr26 q n0 n3).trans ((fr10 q n1).trans (fr5 q n0))))))))))⟩ dX4_readCase_189
  · skip
    refine lv_aload_n hx hb dX4_readCase_13 rfl (lv_at hl 1 rfl) ?_
    refine lv_iconst (v := 2) hx hb dX4_readCase_14 (by decide) ?_
    refine q_wrVi (As := [.int 2]) (rest := []) (c_X4_refuse l D cB cI cJ ad n M hI rd ta h en x ln nu ft bf 2 h_ta h_ta_1 h_rd m_ta m_ta_1 m_rd hxe hen srt) X hK hP hS hl.1 rfl gX4_readCase_X4_refuse yd_X4_refuse ⟨Nat.le_of_ble_eq_true rfl, Nat.le_of_ble_eq_true rfl⟩ h_rd m_rd (ci := 4) rfl rfl (Nat.le_of_ble_eq_true rfl) ⟨Nat.zero_le _, Nat.zero_le _⟩ dX4_readCase_15 (fun r111 M110 H locs hp109 hP hS => ?_)
    obtain ⟨rfl, g112, fr113⟩ := hp109
    exact q_wzret X hr hlocks hP hS (rfl) ⟨nu, (by rw [s_X4_readCase, if_neg c_10]), (by rw [s_X4_readCase_0_4, if_neg c_10]; exact ((fr113 ta (by omega)).trans m_ta)), (by rw [s_X4_readCase_1_2, if_neg c_10]; exact g112), (by rw [s_X4_readCase_2_1, if_neg c_10]; exact ((fr113 h (by omega)).trans m_h)), (by rw [s_X4_readCase_3_f, if_neg c_10]; exact ((fr113 (h + 4) (by omega)).trans m_h_4)), (fun q n0 n1 n2 n3 => (fr113 q n1))⟩ dX4_readCase_18
set_option maxRecDepth 20000 in
theorem fX4_isRoomFor_15 : FL wsX4_isRoomFor RX4 15 4 1 := ⟨RX4, TX4, 3, rfl, by decide +kernel, by decide, by decide +kernel⟩
set_option maxRecDepth 20000 in
theorem fX4_isRoomFor_136 : FL wsX4_isRoomFor RX4 136 0 2 := ⟨RX0, TX0, 12, rfl, by decide +kernel, by decide, by decide +kernel⟩
set_option maxRecDepth 20000 in
theorem fX4_isRoomFor_123 : FL wsX4_isRoomFor RX4 123 0 1 := ⟨RX0, TX0, 12, rfl, by decide +kernel, by decide, by decide +kernel⟩
def s_X4_isRoomFor_54s (tf : Nat → Int32) (z : Int32) (t54 : Nat) (x54_4 : Int32) : Int32 := if (tat 84 tf ((nI t54) * 7 + 5)) = z then (x54_4 + (tat 84 tf ((nI t54) * 7 + 3))) else x54_4
def s_X4_isRoomFor_54 (tf : Nat → Int32) (z : Int32) (z0 : Int32) : Nat → Int32
  | 0 => z0
  | t + 1 => s_X4_isRoomFor_54s tf z t (s_X4_isRoomFor_54 tf z z0 t)
def s_X4_isRoomFor (nt : Nat) (cf : Nat → Int32) (tf : Nat → Int32) (y : Int32) (z : Int32) : Int32 := if (tat 84 tf (y * 7 + 0)) = 2 then if (tat 25 cf (z * 5 + 4)) = 0 then if (s_X4_isRoomFor_54 tf z (tat 84 tf (y * 7 + 3)) nt) ≤ (tat 25 cf (z * 5 + 2)) then 1 else 0 else 0 else if (s_X4_isRoomFor_54 tf z (tat 84 tf (y * 7 + 3)) nt) ≤ (tat 25 cf (z * 5 + 2)) then 1 else 0
set_option maxHeartbeats 2000000 in
set_option maxRecDepth 100000 in
theorem c_X4_isRoomFor (l : Launch) (D : va_G) (cB cI cJ : ClassId) (ad : Nat → Nat) (n : Nat) (M : Nat → va_E) (hI : ipI ad n) (rd ta h en x : Nat) (ln nu ft : Int32) (bf : Nat → Int32) (hv : Nat → Int32) (nt : Nat) (cf tf : Nat → Int32) (y : Int32) (z : Int32) (h_ta : ta < n) (h_ta_1 : ta + 1 < n) (h_rd : rd < n) (h_h : h < n) (h_h_3 : h + 3 < n) (h_h_4 : h + 4 < n) (h_h_5 : h + 5 < n) (h_h_6 : h + 6 < n) (m_ta : M ta = .inr (9, tapeX ad ta ln en bf x nu)) (m_ta_1 : M (ta + 1) = .inl (cB, 700, .inl bf)) (m_rd : M rd = .inr (4, [.ref (ad ta), .ref (ad h), .int ft])) (m_h : M h = .inr (0, hallF ad h hv)) (m_h_3 : M (h + 3) = .inr (8, [.int 5, .ref (ad (h + 4))])) (m_h_4 : M (h + 4) = .inl (cI, 25, .inl cf)) (m_h_5 : M (h + 5) = .inr (8, [.int 7, .ref (ad (h + 6))])) (m_h_6 : M (h + 6) = .inl (cI, 84, .inl tf)) (hxe : x ≤ en) (hen : en ≤ 700) (srt : rd < ta ∨ ta + 1 < rd) (srh : rd < h ∨ h + 15 < rd) (sth : ta + 1 < h ∨ h + 15 < ta) (hy : y = nI nt) (hnt : nt ≤ 12) : cWi l D cB cI cJ ad n M yX4_isRoomFor wsX4_isRoomFor 1 23 [.ref (ad rd), .int y, .int z] (fun r M' => r = s_X4_isRoomFor nt cf tf y z ∧ M' rd = .inr (4, [.ref (ad ta), .ref (ad h), .int (pk0 (s_X4_isRoomFor nt cf tf y z) 6 ft)]) ∧ ∀ q : Nat, q ≠ rd → M' q = M q) := by
  refine q_body (cc := cX4_isRoomFor) (maxL := 6) (ret := (some .boolean)) (by decide) rfl (Nat.le_of_ble_eq_true rfl) ?_
  intro p e s m args below meth c ls X hr hlocks hK hP hl
  obtain ⟨hx, hb, hml, hown, hts⟩ := id X
  have hS : va_S (ipA ad n) s.heap s.heap [] := va_S.rf
  have hl : lv_has ls 6 [(0, .ref (ad rd)), (1, .int y), (2, .int z)] := hl
  refine lv_aload_n hx hb dX4_isRoomFor_0 rfl (lv_at hl 0 rfl) ?_
  refine q_get (v := .ref (ad h)) (fs := [.ref (ad ta), .ref (ad h), .int ft]) X hK hP fX4_isRoomFor_15 h_rd m_rd rfl dX4_isRoomFor_1 ?_
  refine q_get (v := .ref (ad (h + 5))) (fs := hallF ad h hv) X hK hP fX4_isRoomFor_136 h_h m_h rfl dX4_isRoomFor_4 ?_
  refine lv_iload_n hx hb dX4_isRoomFor_7 rfl (lv_at hl 1 rfl) ?_
  refine lv_iconst (v := 0) hx hb dX4_isRoomFor_8 (by decide) ?_
  refine q_rdV (As := [.int y, .int 0]) (rest := []) (c_X8_at_ l D cB cI cJ ad n M (h + 5) (h + 6) 84 7 tf y 0 h_h_5 h_h_6 m_h_5 m_h_6 (by decide)) X hK hP hS hl.1 rfl gX4_isRoomFor_X8_at_ yd_X8_at_ ⟨Nat.le_of_ble_eq_true rfl, Nat.le_of_ble_eq_true rfl⟩ h_h_5 m_h_5 (ci := 8) rfl rfl (Nat.le_of_ble_eq_true rfl) ⟨Nat.zero_le _, Nat.zero_le _⟩ dX4_isRoomFor_9 ?_
  refine lv_iconst (v := 2) hx hb dX4_isRoomFor_12 (by decide) ?_
  refine lv_icmp_ne (tgt := 35) hx hb dX4_isRoomFor_13 (by decide) (fun c_13 => ?_) (fun c_13 => ?_)
  · skip
    refine lv_iconst (v := 0) hx hb dX4_isRoomFor_35 (by decide) ?_
    refine lv_istore_n (lv' := [(3, .int 0), (0, .ref (ad rd)), (1, .int y), (2, .int z)]) hx hb dX4_isRoomFor_36 rfl hl (by decide) rfl (fun ls hl => ?_)
    refine lv_aload_n hx hb dX4_isRoomFor_37 rfl (lv_at hl 1 rfl) ?_
    refine q_get (v := .ref (ad h)) (fs := [.ref (ad ta), .ref (ad h), .int ft]) X hK hP fX4_isRoomFor_15 h_rd m_rd rfl dX4_isRoomFor_38 ?_
    refine q_get (v := .ref (ad (h + 5))) (fs := hallF ad h hv) X hK hP fX4_isRoomFor_136 h_h m_h rfl dX4_isRoomFor_41 ?_
    refine lv_iload_n hx hb dX4_isRoomFor_44 rfl (lv_at hl 2 rfl) ?_
    refine lv_iconst (v := 3) hx hb dX4_isRoomFor_45 (by decide) ?_
    refine q_rdV (As := [.int y, .int 3]) (rest := []) (c_X8_at_ l D cB cI cJ ad n M (h + 5) (h + 6) 84 7 tf y 3 h_h_5 h_h_6 m_h_5 m_h_6 (by decide)) X hK hP hS hl.1 rfl gX4_isRoomFor_X8_at_ yd_X8_at_ ⟨Nat.le_of_ble_eq_true rfl, Nat.le_of_ble_eq_true rfl⟩ h_h_5 m_h_5 (ci := 8) rfl rfl (Nat.le_of_ble_eq_true rfl) ⟨Nat.zero_le _, Nat.zero_le _⟩ dX4_isRoomFor_46 ?_
    refine lv_istore (lv' := [(4, .int (tat 84 tf (y * 7 + 3))), (3, .int 0), (0, .ref (ad rd)), (1, .int y), (2, .int z)]) hx hb dX4_isRoomFor_49 hl (by decide) rfl (fun ls hl => ?_)
    refine lv_iconst (v := 0) hx hb dX4_isRoomFor_51 (by decide) ?_
    refine lv_istore (lv' := [(5, .int 0), (4, .int (tat 84 tf (y * 7 + 3))), (3, .int 0), (0, .ref (ad rd)), (1, .int y), (2, .int z)]) hx hb dX4_isRoomFor_52 hl (by decide) rfl (fun ls hl => ?_)
    have loop_54 : ∀ (fuel : Nat) (t54 : Nat) (x54_4 : Int32), nt - (t54) < fuel → t54 ≤ nt → x54_4 = (s_X4_isRoomFor_54 tf z (tat 84 tf (y * 7 + 3)) t54) → ∀ (ML54 : Nat → va_E) (H : Heap) (locs : List Loc), (∀ q : Nat, ML54 q = M q) → va_P D vwCl (ip ad n ML54) H → va_S (ipA ad n) s.heap H locs → ∀ (ls : Array Slot), lv_has ls 6 [(5, .int (nI t54)), (4, .int x54_4), (3, .int 0), (0, .ref (ad rd)), (1, .int y), (2, .int z)] → W p l e (rmOf 1 23) s m args below meth c H locs 0 0 (MQ below (va_Qi (fun r M' => r = s_X4_isRoomFor nt cf tf y z ∧ M' rd = .inr (4, [.ref (ad ta), .ref (ad h), .int (pk0 (s_X4_isRoomFor nt cf tf y z) 6 ft)]) ∧ ∀ q : Nat, q ≠ rd → M' q = M q) (fun M' t => va_P D vwCl (ip ad n M') t.heap) (ipA ad n)) args s 0 0 (ipA ad n)) (F0 m 54 ls []) := by
      intro fuel
      induction fuel with
      | zero =>
        intro t54 x54_4 hz
        exact absurd hz (Nat.not_lt_zero _)
      | succ fuel ih_54 =>
        intro t54 x54_4 hz_54 h_t54 e_x54_4 ML54 H locs fL54 hP hS ls hl
        skip
        refine lv_iload hx hb dX4_isRoomFor_54 (lv_at hl 0 rfl) ?_
        refine lv_iload_n hx hb dX4_isRoomFor_56 rfl (lv_at hl 4 rfl) ?_
        refine lv_icmp_ge (tgt := 101) hx hb dX4_isRoomFor_57 (by decide) (fun c_57 => ?_) (fun c_57 => ?_)
        · rw [hy] at c_57
          have h9_54 : t54 = nt := eq_of_le (t := t54) (k := nt) c_57 (by omega) h_t54
          subst t54
          subst e_x54_4
          refine lv_iload_n hx hb dX4_isRoomFor_101 rfl (lv_at hl 2 rfl) ?_
          refine lv_if_ne (tgt := 122) hx hb dX4_isRoomFor_102 (by decide) (fun c_102 => ?_) (fun c_102 => ?_)
          · exact absurd c_102 (by decide)
          · clear c_102
            refine lv_iload hx hb dX4_isRoomFor_105 (lv_at hl 1 rfl) ?_
            refine lv_aload_n hx hb dX4_isRoomFor_107 rfl (lv_at hl 3 rfl) ?_
            refine q_get (v := .ref (ad h)) (fs := [.ref (ad ta), .ref (ad h), .int ft]) X hK hP fX4_isRoomFor_15 h_rd ((fL54 rd ).trans m_rd) rfl dX4_isRoomFor_108 ?_
            refine q_get (v := .ref (ad (h + 3))) (fs := hallF ad h hv) X hK hP fX4_isRoomFor_123 h_h ((fL54 h ).trans m_h) rfl dX4_isRoomFor_111 ?_
            refine lv_iload_n hx hb dX4_isRoomFor_114 rfl (lv_at hl 5 rfl) ?_
            refine lv_iconst (v := 2) hx hb dX4_isRoomFor_115 (by decide) ?_
            refine q_rdV (As := [.int z, .int 2]) (rest := [.int (s_X4_isRoomFor_54 tf z (tat 84 tf (y * 7 + 3)) nt)]) (c_X8_at_ l D cB cI cJ ad n ML54 (h + 3) (h + 4) 25 5 cf z 2 h_h_3 h_h_4 ((fL54 (h + 3) ).trans m_h_3) ((fL54 (h + 4) ).trans m_h_4) (by decide)) X hK hP hS hl.1 rfl gX4_isRoomFor_X8_at_ yd_X8_at_ ⟨Nat.le_of_ble_eq_true rfl, Nat.le_of_ble_eq_true rfl⟩ h_h_3 ((fL54 (h + 3) ).trans m_h_3) (ci := 8) rfl rfl (Nat.le_of_ble_eq_true rfl) ⟨Nat.zero_le _, Nat.zero_le _⟩ dX4_isRoomFor_116 ?_
            refine lv_icmp_le (tgt := 131) hx hb dX4_isRoomFor_119 (by decide) (fun c_119 => ?_) (fun c_119 => ?_)
            · skip
              refine lv_iconst (v := 1) hx hb dX4_isRoomFor_131 (by decide) ?_
              refine lv_goto (tgt := 136) hx hb dX4_isRoomFor_132 (by decide) ?_
              exact q_wzret X hr hlocks hP hS (rfl) ⟨(by rw [s_X4_isRoomFor, if_neg c_13, if_pos c_119]), (by refine ((fL54 rd ).trans m_rd).trans ?_; rw [s_X4_isRoomFor, if_neg c_13, if_pos c_119]; simp only [pk0_z, pk0_o]), (fun q n0 => (fL54 q))⟩ dX4_isRoomFor_136
            · skip
              refine lv_aload_n hx hb dX4_isRoomFor_122 rfl (lv_at hl 3 rfl) ?_
              refine lv_bipush (v := 6) hx hb dX4_isRoomFor_123 (by decide) ?_
              refine q_wrVi (As := [.int 6]) (rest := []) (c_X4_refuse l D cB cI cJ ad n ML54 hI rd ta h en x ln nu ft bf 6 h_ta h_ta_1 h_rd ((fL54 ta ).trans m_ta) ((fL54 (ta + 1) ).trans m_ta_1) ((fL54 rd ).trans m_rd) hxe hen srt) X hK hP hS hl.1 rfl gX4_isRoomFor_X4_refuse yd_X4_refuse ⟨Nat.le_of_ble_eq_true rfl, Nat.le_of_ble_eq_true rfl⟩ h_rd ((fL54 rd ).trans m_rd) (ci := 4) rfl rfl (Nat.le_of_ble_eq_true rfl) ⟨Nat.zero_le _, Nat.zero_le _⟩ dX4_isRoomFor_125 (fun r3 M2 H locs hp1 hP hS => ?_)
              obtain ⟨rfl, g4, fr5⟩ := hp1
              refine lv_if_eq (tgt := 135) hx hb dX4_isRoomFor_128 (by decide) (fun c_128 => ?_) (fun c_128 => ?_)
              · clear c_128
                refine lv_iconst (v := 0) hx hb dX4_isRoomFor_135 (by decide) ?_
                exact q_wzret X hr hlocks hP hS (rfl) ⟨(by rw [s_X4_isRoomFor, if_neg c_13, if_neg c_119]), (by refine g4.trans ?_; rw [s_X4_isRoomFor, if_neg c_13, if_neg c_119]; simp only [pk0_z, pk0_o]), (fun q n0 => ((fr5 q n0).trans (fL54 q)))⟩ dX4_isRoomFor_136
              · exact absurd c_128 (by decide)
        · rw [hy] at c_57
          have h9_54 : t54 < nt := lt_of_nlt (t := t54) (k := nt) c_57 (by omega) h_t54
          refine lv_aload_n hx hb dX4_isRoomFor_60 rfl (lv_at hl 3 rfl) ?_
          refine q_get (v := .ref (ad h)) (fs := [.ref (ad ta), .ref (ad h), .int ft]) X hK hP fX4_isRoomFor_15 h_rd ((fL54 rd ).trans m_rd) rfl dX4_isRoomFor_61 ?_
          refine q_get (v := .ref (ad (h + 5))) (fs := hallF ad h hv) X hK hP fX4_isRoomFor_136 h_h ((fL54 h ).trans m_h) rfl dX4_isRoomFor_64 ?_
          refine lv_iload hx hb dX4_isRoomFor_67 (lv_at hl 0 rfl) ?_
          refine lv_iconst (v := 5) hx hb dX4_isRoomFor_69 (by decide) ?_
          refine q_rdV (As := [.int (nI t54), .int 5]) (rest := []) (c_X8_at_ l D cB cI cJ ad n ML54 (h + 5) (h + 6) 84 7 tf (nI t54) 5 h_h_5 h_h_6 ((fL54 (h + 5) ).trans m_h_5) ((fL54 (h + 6) ).trans m_h_6) (by decide)) X hK hP hS hl.1 rfl gX4_isRoomFor_X8_at_ yd_X8_at_ ⟨Nat.le_of_ble_eq_true rfl, Nat.le_of_ble_eq_true rfl⟩ h_h_5 ((fL54 (h + 5) ).trans m_h_5) (ci := 8) rfl rfl (Nat.le_of_ble_eq_true rfl) ⟨Nat.zero_le _, Nat.zero_le _⟩ dX4_isRoomFor_70 ?_
          refine lv_iload_n hx hb dX4_isRoomFor_73 rfl (lv_at hl 5 rfl) ?_
          refine lv_icmp_ne (tgt := 95) hx hb dX4_isRoomFor_74 (by decide) (fun c_74 => ?_) (fun c_74 => ?_)
          · skip
            refine lv_iinc (v := ((nI t54) + 1)) (lv' := [(5, .int ((nI t54) + 1)), (4, .int x54_4), (3, .int 0), (0, .ref (ad rd)), (1, .int y), (2, .int z)]) hx hb dX4_isRoomFor_95 hl (k := 0) rfl rfl (by decide) rfl (fun ls hl => ?_)
            refine lv_goto (tgt := 54) hx hb dX4_isRoomFor_98 (by decide) ?_
            exact ih_54 (t54 + 1) x54_4 (by omega) (by omega) (by rw [s_X4_isRoomFor_54, ← e_x54_4, s_X4_isRoomFor_54s, if_neg c_74]) _ _ _ (fun q => (fL54 q)) hP hS ls (by rw [(show nI (t54 + 1) = nI t54 + 1 by exact nI_succ _)]; exact lv_sub hl [0, 1, 2, 3, 4, 5] rfl)
          · skip
            refine lv_iload hx hb dX4_isRoomFor_77 (lv_at hl 1 rfl) ?_
            refine lv_aload_n hx hb dX4_isRoomFor_79 rfl (lv_at hl 3 rfl) ?_
            refine q_get (v := .ref (ad h)) (fs := [.ref (ad ta), .ref (ad h), .int ft]) X hK hP fX4_isRoomFor_15 h_rd ((fL54 rd ).trans m_rd) rfl dX4_isRoomFor_80 ?_
            refine q_get (v := .ref (ad (h + 5))) (fs := hallF ad h hv) X hK hP fX4_isRoomFor_136 h_h ((fL54 h ).trans m_h) rfl dX4_isRoomFor_83 ?_
            refine lv_iload hx hb dX4_isRoomFor_86 (lv_at hl 0 rfl) ?_
            refine lv_iconst (v := 3) hx hb dX4_isRoomFor_88 (by decide) ?_
            refine q_rdV (As := [.int (nI t54), .int 3]) (rest := [.int x54_4]) (c_X8_at_ l D cB cI cJ ad n ML54 (h + 5) (h + 6) 84 7 tf (nI t54) 3 h_h_5 h_h_6 ((fL54 (h + 5) ).trans m_h_5) ((fL54 (h + 6) ).trans m_h_6) (by decide)) X hK hP hS hl.1 rfl gX4_isRoomFor_X8_at_ yd_X8_at_ ⟨Nat.le_of_ble_eq_true rfl, Nat.le_of_ble_eq_true rfl⟩ h_h_5 ((fL54 (h + 5) ).trans m_h_5) (ci := 8) rfl rfl (Nat.le_of_ble_eq_true rfl) ⟨Nat.zero_le _, Nat.zero_le _⟩ dX4_isRoomFor_89 ?_
            refine lv_iadd hx hb dX4_isRoomFor_92 ?_
            refine lv_istore (lv' := [(4, .int (x54_4 + (tat 84 tf ((nI t54) * 7 + 3)))), (5, .int (nI t54)), (3, .int 0), (0, .ref (ad rd)), (1, .int y), (2, .int z)]) hx hb dX4_isRoomFor_93 hl (by decide) rfl (fun ls hl => ?_)
            refine lv_iinc (v := ((nI t54) + 1)) (lv' := [(5, .int ((nI t54) + 1)), (4, .int (x54_4 + (tat 84 tf ((nI t54) * 7 + 3)))), (3, .int 0), (0, .ref (ad rd)), (1, .int y), (2, .int z)]) hx hb dX4_isRoomFor_95 hl (k := 1) rfl rfl (by decide) rfl (fun ls hl => ?_)
            refine lv_goto (tgt := 54) hx hb dX4_isRoomFor_98 (by decide) ?_
            exact ih_54 (t54 + 1) (x54_4 + (tat 84 tf ((nI t54) * 7 + 3))) (by omega) (by omega) (by rw [s_X4_isRoomFor_54, ← e_x54_4, s_X4_isRoomFor_54s, if_pos c_74]) _ _ _ (fun q => (fL54 q)) hP hS ls (by rw [(show nI (t54 + 1) = nI t54 + 1 by exact nI_succ _)]; exact lv_sub hl [0, 1, 2, 3, 4, 5] rfl)
    exact loop_54 (nt + 1) 0 (tat 84 tf (y * 7 + 3)) (by omega) (by omega) (by rfl) _ _ _ (fun q => rfl) hP hS ls (lv_sub hl [0, 1, 2, 3, 4, 5] rfl)
  · skip
    refine lv_aload_n hx hb dX4_isRoomFor_16 rfl (lv_at hl 0 rfl) ?_
    refine q_get (v := .ref (ad h)) (fs := [.ref (ad ta), .ref (ad h), .int ft]) X hK hP fX4_isRoomFor_15 h_rd m_rd rfl dX4_isRoomFor_17 ?_
    refine q_get (v := .ref (ad (h + 3))) (fs := hallF ad h hv) X hK hP fX4_isRoomFor_123 h_h m_h rfl dX4_isRoomFor_20 ?_
    refine lv_iload_n hx hb dX4_isRoomFor_23 rfl (lv_at hl 2 rfl) ?_
    refine lv_iconst (v := 4) hx hb dX4_isRoomFor_24 (by decide) ?_
    refine q_rdV (As := [.int z, .int 4]) (rest := []) (c_X8_at_ l D cB cI cJ ad n M (h + 3) (h + 4) 25 5 cf z 4 h_h_3 h_h_4 m_h_3 m_h_4 (by decide)) X hK hP hS hl.1 rfl gX4_isRoomFor_X8_at_ yd_X8_at_ ⟨Nat.le_of_ble_eq_true rfl, Nat.le_of_ble_eq_true rfl⟩ h_h_3 m_h_3 (ci := 8) rfl rfl (Nat.le_of_ble_eq_true rfl) ⟨Nat.zero_le _, Nat.zero_le _⟩ dX4_isRoomFor_25 ?_
    refine lv_if_eq (tgt := 35) hx hb dX4_isRoomFor_28 (by decide) (fun c_28 => ?_) (fun c_28 => ?_)
    · skip
      refine lv_iconst (v := 0) hx hb dX4_isRoomFor_35 (by decide) ?_
      refine lv_istore_n (lv' := [(3, .int 0), (0, .ref (ad rd)), (1, .int y), (2, .int z)]) hx hb dX4_isRoomFor_36 rfl hl (by decide) rfl (fun ls hl => ?_)
      refine lv_aload_n hx hb dX4_isRoomFor_37 rfl (lv_at hl 1 rfl) ?_
      refine q_get (v := .ref (ad h)) (fs := [.ref (ad ta), .ref (ad h), .int ft]) X hK hP fX4_isRoomFor_15 h_rd m_rd rfl dX4_isRoomFor_38 ?_
      refine q_get (v := .ref (ad (h + 5))) (fs := hallF ad h hv) X hK hP fX4_isRoomFor_136 h_h m_h rfl dX4_isRoomFor_41 ?_
      refine lv_iload_n hx hb dX4_isRoomFor_44 rfl (lv_at hl 2 rfl) ?_
      refine lv_iconst (v := 3) hx hb dX4_isRoomFor_45 (by decide) ?_
      refine q_rdV (As := [.int y, .int 3]) (rest := []) (c_X8_at_ l D cB cI cJ ad n M (h + 5) (h + 6) 84 7 tf y 3 h_h_5 h_h_6 m_h_5 m_h_6 (by decide)) X hK hP hS hl.1 rfl gX4_isRoomFor_X8_at_ yd_X8_at_ ⟨Nat.le_of_ble_eq_true rfl, Nat.le_of_ble_eq_true rfl⟩ h_h_5 m_h_5 (ci := 8) rfl rfl (Nat.le_of_ble_eq_true rfl) ⟨Nat.zero_le _, Nat.zero_le _⟩ dX4_isRoomFor_46 ?_
      refine lv_istore (lv' := [(4, .int (tat 84 tf (y * 7 + 3))), (3, .int 0), (0, .ref (ad rd)), (1, .int y), (2, .int z)]) hx hb dX4_isRoomFor_49 hl (by decide) rfl (fun ls hl => ?_)
      refine lv_iconst (v := 0) hx hb dX4_isRoomFor_51 (by decide) ?_
      refine lv_istore (lv' := [(5, .int 0), (4, .int (tat 84 tf (y * 7 + 3))), (3, .int 0), (0, .ref (ad rd)), (1, .int y), (2, .int z)]) hx hb dX4_isRoomFor_52 hl (by decide) rfl (fun ls hl => ?_)
      have loop_54 : ∀ (fuel : Nat) (t54 : Nat) (x54_4 : Int32), nt - (t54) < fuel → t54 ≤ nt → x54_4 = (s_X4_isRoomFor_54 tf z (tat 84 tf (y * 7 + 3)) t54) → ∀ (ML54 : Nat → va_E) (H : Heap) (locs : List Loc), (∀ q : Nat, ML54 q = M q) → va_P D vwCl (ip ad n ML54) H → va_S (ipA ad n) s.heap H locs → ∀ (ls : Array Slot), lv_has ls 6 [(5, .int (nI t54)), (4, .int x54_4), (3, .int 0), (0, .ref (ad rd)), (1, .int y), (2, .int z)] → W p l e (rmOf 1 23) s m args below meth c H locs 0 0 (MQ below (va_Qi (fun r M' => r = s_X4_isRoomFor nt cf tf y z ∧ M' rd = .inr (4, [.ref (ad ta), .ref (ad h), .int (pk0 (s_X4_isRoomFor nt cf tf y z) 6 ft)]) ∧ ∀ q : Nat, q ≠ rd → M' q = M q) (fun M' t => va_P D vwCl (ip ad n M') t.heap) (ipA ad n)) args s 0 0 (ipA ad n)) (F0 m 54 ls []) := by
        intro fuel
        induction fuel with
        | zero =>
          intro t54 x54_4 hz
          exact absurd hz (Nat.not_lt_zero _)
        | succ fuel ih_54 =>
          intro t54 x54_4 hz_54 h_t54 e_x54_4 ML54 H locs fL54 hP hS ls hl
          skip
          refine lv_iload hx hb dX4_isRoomFor_54 (lv_at hl 0 rfl) ?_
          refine lv_iload_n hx hb dX4_isRoomFor_56 rfl (lv_at hl 4 rfl) ?_
          refine lv_icmp_ge (tgt := 101) hx hb dX4_isRoomFor_57 (by decide) (fun c_57 => ?_) (fun c_57 => ?_)
          · rw [hy] at c_57
            have h9_54 : t54 = nt := eq_of_le (t := t54) (k := nt) c_57 (by omega) h_t54
            subst t54
            subst e_x54_4
            refine lv_iload_n hx hb dX4_isRoomFor_101 rfl (lv_at hl 2 rfl) ?_
            refine lv_if_ne (tgt := 122) hx hb dX4_isRoomFor_102 (by decide) (fun c_102 => ?_) (fun c_102 => ?_)
            · exact absurd c_102 (by decide)
            · clear c_102
              refine lv_iload hx hb dX4_isRoomFor_105 (lv_at hl 1 rfl) ?_
              refine lv_aload_n hx hb dX4_isRoomFor_107 rfl (lv_at hl 3 rfl) ?_
              refine q_get (v := .ref (ad h)) (fs := [.ref (ad ta), .ref (ad h), .int ft]) X hK hP fX4_isRoomFor_15 h_rd ((fL54 rd ).trans m_rd) rfl dX4_isRoomFor_108 ?_
              refine q_get (v := .ref (ad (h + 3))) (fs := hallF ad h hv) X hK hP fX4_isRoomFor_123 h_h ((fL54 h ).trans m_h) rfl dX4_isRoomFor_111 ?_
              refine lv_iload_n hx hb dX4_isRoomFor_114 rfl (lv_at hl 5 rfl) ?_
              refine lv_iconst (v := 2) hx hb dX4_isRoomFor_115 (by decide) ?_
              refine q_rdV (As := [.int z, .int 2]) (rest := [.int (s_X4_isRoomFor_54 tf z (tat 84 tf (y * 7 + 3)) nt)]) (c_X8_at_ l D cB cI cJ ad n ML54 (h + 3) (h + 4) 25 5 cf z 2 h_h_3 h_h_4 ((fL54 (h + 3) ).trans m_h_3) ((fL54 (h + 4) ).trans m_h_4) (by decide)) X hK hP hS hl.1 rfl gX4_isRoomFor_X8_at_ yd_X8_at_ ⟨Nat.le_of_ble_eq_true rfl, Nat.le_of_ble_eq_true rfl⟩ h_h_3 ((fL54 (h + 3) ).trans m_h_3) (ci := 8) rfl rfl (Nat.le_of_ble_eq_true rfl) ⟨Nat.zero_le _, Nat.zero_le _⟩ dX4_isRoomFor_116 ?_
              refine lv_icmp_le (tgt := 131) hx hb dX4_isRoomFor_119 (by decide) (fun c_119 => ?_) (fun c_119 => ?_)
              · skip
                refine lv_iconst (v := 1) hx hb dX4_isRoomFor_131 (by decide) ?_
                refine lv_goto (tgt := 136) hx hb dX4_isRoomFor_132 (by decide) ?_
                exact q_wzret X hr hlocks hP hS (rfl) ⟨(by rw [s_X4_isRoomFor, if_pos c_13, if_pos c_28, if_pos c_119]), (by refine ((fL54 rd ).trans m_rd).trans ?_; rw [s_X4_isRoomFor, if_pos c_13, if_pos c_28, if_pos c_119]; simp only [pk0_z, pk0_o]), (fun q n0 => (fL54 q))⟩ dX4_isRoomFor_136
              · skip
                refine lv_aload_n hx hb dX4_isRoomFor_122 rfl (lv_at hl 3 rfl) ?_
                refine lv_bipush (v := 6) hx hb dX4_isRoomFor_123 (by decide) ?_
                refine q_wrVi (As := [.int 6]) (rest := []) (c_X4_refuse l D cB cI cJ ad n ML54 hI rd ta h en x ln nu ft bf 6 h_ta h_ta_1 h_rd ((fL54 ta ).trans m_ta) ((fL54 (ta + 1) ).trans m_ta_1) ((fL54 rd ).trans m_rd) hxe hen srt) X hK hP hS hl.1 rfl gX4_isRoomFor_X4_refuse yd_X4_refuse ⟨Nat.le_of_ble_eq_true rfl, Nat.le_of_ble_eq_true rfl⟩ h_rd ((fL54 rd ).trans m_rd) (ci := 4) rfl rfl (Nat.le_of_ble_eq_true rfl) ⟨Nat.zero_le _, Nat.zero_le _⟩ dX4_isRoomFor_125 (fun r8 M7 H locs hp6 hP hS => ?_)
                obtain ⟨rfl, g9, fr10⟩ := hp6
                refine lv_if_eq (tgt := 135) hx hb dX4_isRoomFor_128 (by decide) (fun c_128 => ?_) (fun c_128 => ?_)
                · clear c_128
                  refine lv_iconst (v := 0) hx hb dX4_isRoomFor_135 (by decide) ?_
                  exact q_wzret X hr hlocks hP hS (rfl) ⟨(by rw [s_X4_isRoomFor, if_pos c_13, if_pos c_28, if_neg c_119]), (by refine g9.trans ?_; rw [s_X4_isRoomFor, if_pos c_13, if_pos c_28, if_neg c_119]; simp only [pk0_z, pk0_o]), (fun q n0 => ((fr10 q n0).trans (fL54 q)))⟩ dX4_isRoomFor_136
                · exact absurd c_128 (by decide)
          · rw [hy] at c_57
            have h9_54 : t54 < nt := lt_of_nlt (t := t54) (k := nt) c_57 (by omega) h_t54
            refine lv_aload_n hx hb dX4_isRoomFor_60 rfl (lv_at hl 3 rfl) ?_
            refine q_get (v := .ref (ad h)) (fs := [.ref (ad ta), .ref (ad h), .int ft]) X hK hP fX4_isRoomFor_15 h_rd ((fL54 rd ).trans m_rd) rfl dX4_isRoomFor_61 ?_
            refine q_get (v := .ref (ad (h + 5))) (fs := hallF ad h hv) X hK hP fX4_isRoomFor_136 h_h ((fL54 h ).trans m_h) rfl dX4_isRoomFor_64 ?_
            refine lv_iload hx hb dX4_isRoomFor_67 (lv_at hl 0 rfl) ?_
            refine lv_iconst (v := 5) hx hb dX4_isRoomFor_69 (by decide) ?_
            refine q_rdV (As := [.int (nI t54), .int 5]) (rest := []) (c_X8_at_ l D cB cI cJ ad n ML54 (h + 5) (h + 6) 84 7 tf (nI t54) 5 h_h_5 h_h_6 ((fL54 (h + 5) ).trans m_h_5) ((fL54 (h + 6) ).trans m_h_6) (by decide)) X hK hP hS hl.1 rfl gX4_isRoomFor_X8_at_ yd_X8_at_ ⟨Nat.le_of_ble_eq_true rfl, Nat.le_of_ble_eq_true rfl⟩ h_h_5 ((fL54 (h + 5) ).trans m_h_5) (ci := 8) rfl rfl (Nat.le_of_ble_eq_true rfl) ⟨Nat.zero_le _, Nat.zero_le _⟩ dX4_isRoomFor_70 ?_
            refine lv_iload_n hx hb dX4_isRoomFor_73 rfl (lv_at hl 5 rfl) ?_
            refine lv_icmp_ne (tgt := 95) hx hb dX4_isRoomFor_74 (by decide) (fun c_74 => ?_) (fun c_74 => ?_)
            · skip
              refine lv_iinc (v := ((nI t54) + 1)) (lv' := [(5, .int ((nI t54) + 1)), (4, .int x54_4), (3, .int 0), (0, .ref (ad rd)), (1, .int y), (2, .int z)]) hx hb dX4_isRoomFor_95 hl (k := 0) rfl rfl (by decide) rfl (fun ls hl => ?_)
              refine lv_goto (tgt := 54) hx hb dX4_isRoomFor_98 (by decide) ?_
              exact ih_54 (t54 + 1) x54_4 (by omega) (by omega) (by rw [s_X4_isRoomFor_54, ← e_x54_4, s_X4_isRoomFor_54s, if_neg c_74]) _ _ _ (fun q => (fL54 q)) hP hS ls (by rw [(show nI (t54 + 1) = nI t54 + 1 by exact nI_succ _)]; exact lv_sub hl [0, 1, 2, 3, 4, 5] rfl)
            · skip
              refine lv_iload hx hb dX4_isRoomFor_77 (lv_at hl 1 rfl) ?_
              refine lv_aload_n hx hb dX4_isRoomFor_79 rfl (lv_at hl 3 rfl) ?_
              refine q_get (v := .ref (ad h)) (fs := [.ref (ad ta), .ref (ad h), .int ft]) X hK hP fX4_isRoomFor_15 h_rd ((fL54 rd ).trans m_rd) rfl dX4_isRoomFor_80 ?_
              refine q_get (v := .ref (ad (h + 5))) (fs := hallF ad h hv) X hK hP fX4_isRoomFor_136 h_h ((fL54 h ).trans m_h) rfl dX4_isRoomFor_83 ?_
              refine lv_iload hx hb dX4_isRoomFor_86 (lv_at hl 0 rfl) ?_
              refine lv_iconst (v := 3) hx hb dX4_isRoomFor_88 (by decide) ?_
              refine q_rdV (As := [.int (nI t54), .int 3]) (rest := [.int x54_4]) (c_X8_at_ l D cB cI cJ ad n ML54 (h + 5) (h + 6) 84 7 tf (nI t54) 3 h_h_5 h_h_6 ((fL54 (h + 5) ).trans m_h_5) ((fL54 (h + 6) ).trans m_h_6) (by decide)) X hK hP hS hl.1 rfl gX4_isRoomFor_X8_at_ yd_X8_at_ ⟨Nat.le_of_ble_eq_true rfl, Nat.le_of_ble_eq_true rfl⟩ h_h_5 ((fL54 (h + 5) ).trans m_h_5) (ci := 8) rfl rfl (Nat.le_of_ble_eq_true rfl) ⟨Nat.zero_le _, Nat.zero_le _⟩ dX4_isRoomFor_89 ?_
              refine lv_iadd hx hb dX4_isRoomFor_92 ?_
              refine lv_istore (lv' := [(4, .int (x54_4 + (tat 84 tf ((nI t54) * 7 + 3)))), (5, .int (nI t54)), (3, .int 0), (0, .ref (ad rd)), (1, .int y), (2, .int z)]) hx hb dX4_isRoomFor_93 hl (by decide) rfl (fun ls hl => ?_)
              refine lv_iinc (v := ((nI t54) + 1)) (lv' := [(5, .int ((nI t54) + 1)), (4, .int (x54_4 + (tat 84 tf ((nI t54) * 7 + 3)))), (3, .int 0), (0, .ref (ad rd)), (1, .int y), (2, .int z)]) hx hb dX4_isRoomFor_95 hl (k := 1) rfl rfl (by decide) rfl (fun ls hl => ?_)
              refine lv_goto (tgt := 54) hx hb dX4_isRoomFor_98 (by decide) ?_
              exact ih_54 (t54 + 1) (x54_4 + (tat 84 tf ((nI t54) * 7 + 3))) (by omega) (by omega) (by rw [s_X4_isRoomFor_54, ← e_x54_4, s_X4_isRoomFor_54s, if_pos c_74]) _ _ _ (fun q => (fL54 q)) hP hS ls (by rw [(show nI (t54 + 1) = nI t54 + 1 by exact nI_succ _)]; exact lv_sub hl [0, 1, 2, 3, 4, 5] rfl)
      exact loop_54 (nt + 1) 0 (tat 84 tf (y * 7 + 3)) (by omega) (by omega) (by rfl) _ _ _ (fun q => rfl) hP hS ls (lv_sub hl [0, 1, 2, 3, 4, 5] rfl)
    · skip
      refine lv_iconst (v := 1) hx hb dX4_isRoomFor_31 (by decide) ?_
      refine lv_goto (tgt := 36) hx hb dX4_isRoomFor_32 (by decide) ?_
      refine lv_istore_n (lv' := [(3, .int 1), (0, .ref (ad rd)), (1, .int y), (2, .int z)]) hx hb dX4_isRoomFor_36 rfl hl (by decide) rfl (fun ls hl => ?_)
      refine lv_aload_n hx hb dX4_isRoomFor_37 rfl (lv_at hl 1 rfl) ?_
      refine q_get (v := .ref (ad h)) (fs := [.ref (ad ta), .ref (ad h), .int ft]) X hK hP fX4_isRoomFor_15 h_rd m_rd rfl dX4_isRoomFor_38 ?_
      refine q_get (v := .ref (ad (h + 5))) (fs := hallF ad h hv) X hK hP fX4_isRoomFor_136 h_h m_h rfl dX4_isRoomFor_41 ?_
      refine lv_iload_n hx hb dX4_isRoomFor_44 rfl (lv_at hl 2 rfl) ?_
      refine lv_iconst (v := 3) hx hb dX4_isRoomFor_45 (by decide) ?_
      refine q_rdV (As := [.int y, .int 3]) (rest := []) (c_X8_at_ l D cB cI cJ ad n M (h + 5) (h + 6) 84 7 tf y 3 h_h_5 h_h_6 m_h_5 m_h_6 (by decide)) X hK hP hS hl.1 rfl gX4_isRoomFor_X8_at_ yd_X8_at_ ⟨Nat.le_of_ble_eq_true rfl, Nat.le_of_ble_eq_true rfl⟩ h_h_5 m_h_5 (ci := 8) rfl rfl (Nat.le_of_ble_eq_true rfl) ⟨Nat.zero_le _, Nat.zero_le _⟩ dX4_isRoomFor_46 ?_
      refine lv_istore (lv' := [(4, .int (tat 84 tf (y * 7 + 3))), (3, .int 1), (0, .ref (ad rd)), (1, .int y), (2, .int z)]) hx hb dX4_isRoomFor_49 hl (by decide) rfl (fun ls hl => ?_)
      refine lv_iconst (v := 0) hx hb dX4_isRoomFor_51 (by decide) ?_
      refine lv_istore (lv' := [(5, .int 0), (4, .int (tat 84 tf (y * 7 + 3))), (3, .int 1), (0, .ref (ad rd)), (1, .int y), (2, .int z)]) hx hb dX4_isRoomFor_52 hl (by decide) rfl (fun ls hl => ?_)
      have loop_54 : ∀ (fuel : Nat) (t54 : Nat) (x54_4 : Int32), nt - (t54) < fuel → t54 ≤ nt → x54_4 = (s_X4_isRoomFor_54 tf z (tat 84 tf (y * 7 + 3)) t54) → ∀ (ML54 : Nat → va_E) (H : Heap) (locs : List Loc), (∀ q : Nat, ML54 q = M q) → va_P D vwCl (ip ad n ML54) H → va_S (ipA ad n) s.heap H locs → ∀ (ls : Array Slot), lv_has ls 6 [(5, .int (nI t54)), (4, .int x54_4), (3, .int 1), (0, .ref (ad rd)), (1, .int y), (2, .int z)] → W p l e (rmOf 1 23) s m args below meth c H locs 0 0 (MQ below (va_Qi (fun r M' => r = s_X4_isRoomFor nt cf tf y z ∧ M' rd = .inr (4, [.ref (ad ta), .ref (ad h), .int (pk0 (s_X4_isRoomFor nt cf tf y z) 6 ft)]) ∧ ∀ q : Nat, q ≠ rd → M' q = M q) (fun M' t => va_P D vwCl (ip ad n M') t.heap) (ipA ad n)) args s 0 0 (ipA ad n)) (F0 m 54 ls []) := by
        intro fuel
        induction fuel with
        | zero =>
          intro t54 x54_4 hz
          exact absurd hz (Nat.not_lt_zero _)
        | succ fuel ih_54 =>
          intro t54 x54_4 hz_54 h_t54 e_x54_4 ML54 H locs fL54 hP hS ls hl
          skip
          refine lv_iload hx hb dX4_isRoomFor_54 (lv_at hl 0 rfl) ?_
          refine lv_iload_n hx hb dX4_isRoomFor_56 rfl (lv_at hl 4 rfl) ?_
          refine lv_icmp_ge (tgt := 101) hx hb dX4_isRoomFor_57 (by decide) (fun c_57 => ?_) (fun c_57 => ?_)
          · rw [hy] at c_57
            have h9_54 : t54 = nt := eq_of_le (t := t54) (k := nt) c_57 (by omega) h_t54
            subst t54
            subst e_x54_4
            refine lv_iload_n hx hb dX4_isRoomFor_101 rfl (lv_at hl 2 rfl) ?_
            refine lv_if_ne (tgt := 122) hx hb dX4_isRoomFor_102 (by decide) (fun c_102 => ?_) (fun c_102 => ?_)
            · clear c_102
              refine lv_aload_n hx hb dX4_isRoomFor_122 rfl (lv_at hl 3 rfl) ?_
              refine lv_bipush (v := 6) hx hb dX4_isRoomFor_123 (by decide) ?_
              refine q_wrVi (As := [.int 6]) (rest := []) (c_X4_refuse l D cB cI cJ ad n ML54 hI rd ta h en x ln nu ft bf 6 h_ta h_ta_1 h_rd ((fL54 ta ).trans m_ta) ((fL54 (ta + 1) ).trans m_ta_1) ((fL54 rd ).trans m_rd) hxe hen srt) X hK hP hS hl.1 rfl gX4_isRoomFor_X4_refuse yd_X4_refuse ⟨Nat.le_of_ble_eq_true rfl, Nat.le_of_ble_eq_true rfl⟩ h_rd ((fL54 rd ).trans m_rd) (ci := 4) rfl rfl (Nat.le_of_ble_eq_true rfl) ⟨Nat.zero_le _, Nat.zero_le _⟩ dX4_isRoomFor_125 (fun r13 M12 H locs hp11 hP hS => ?_)
              obtain ⟨rfl, g14, fr15⟩ := hp11
              refine lv_if_eq (tgt := 135) hx hb dX4_isRoomFor_128 (by decide) (fun c_128 => ?_) (fun c_128 => ?_)
              · clear c_128
                refine lv_iconst (v := 0) hx hb dX4_isRoomFor_135 (by decide) ?_
                exact q_wzret X hr hlocks hP hS (rfl) ⟨(by rw [s_X4_isRoomFor, if_pos c_13, if_neg c_28]), (by refine g14.trans ?_; rw [s_X4_isRoomFor, if_pos c_13, if_neg c_28]; simp only [pk0_z, pk0_o]), (fun q n0 => ((fr15 q n0).trans (fL54 q)))⟩ dX4_isRoomFor_136
              · exact absurd c_128 (by decide)
            · exact absurd c_102 (by decide)
          · rw [hy] at c_57
            have h9_54 : t54 < nt := lt_of_nlt (t := t54) (k := nt) c_57 (by omega) h_t54
            refine lv_aload_n hx hb dX4_isRoomFor_60 rfl (lv_at hl 3 rfl) ?_
            refine q_get (v := .ref (ad h)) (fs := [.ref (ad ta), .ref (ad h), .int ft]) X hK hP fX4_isRoomFor_15 h_rd ((fL54 rd ).trans m_rd) rfl dX4_isRoomFor_61 ?_
            refine q_get (v := .ref (ad (h + 5))) (fs := hallF ad h hv) X hK hP fX4_isRoomFor_136 h_h ((fL54 h ).trans m_h) rfl dX4_isRoomFor_64 ?_
            refine lv_iload hx hb dX4_isRoomFor_67 (lv_at hl 0 rfl) ?_
            refine lv_iconst (v := 5) hx hb dX4_isRoomFor_69 (by decide) ?_
            refine q_rdV (As := [.int (nI t54), .int 5]) (rest := []) (c_X8_at_ l D cB cI cJ ad n ML54 (h + 5) (h + 6) 84 7 tf (nI t54) 5 h_h_5 h_h_6 ((fL54 (h + 5) ).trans m_h_5) ((fL54 (h + 6) ).trans m_h_6) (by decide)) X hK hP hS hl.1 rfl gX4_isRoomFor_X8_at_ yd_X8_at_ ⟨Nat.le_of_ble_eq_true rfl, Nat.le_of_ble_eq_true rfl⟩ h_h_5 ((fL54 (h + 5) ).trans m_h_5) (ci := 8) rfl rfl (Nat.le_of_ble_eq_true rfl) ⟨Nat.zero_le _, Nat.zero_le _⟩ dX4_isRoomFor_70 ?_
            refine lv_iload_n hx hb dX4_isRoomFor_73 rfl (lv_at hl 5 rfl) ?_
            refine lv_icmp_ne (tgt := 95) hx hb dX4_isRoomFor_74 (by decide) (fun c_74 => ?_) (fun c_74 => ?_)
            · skip
              refine lv_iinc (v := ((nI t54) + 1)) (lv' := [(5, .int ((nI t54) + 1)), (4, .int x54_4), (3, .int 1), (0, .ref (ad rd)), (1, .int y), (2, .int z)]) hx hb dX4_isRoomFor_95 hl (k := 0) rfl rfl (by decide) rfl (fun ls hl => ?_)
              refine lv_goto (tgt := 54) hx hb dX4_isRoomFor_98 (by decide) ?_
              exact ih_54 (t54 + 1) x54_4 (by omega) (by omega) (by rw [s_X4_isRoomFor_54, ← e_x54_4, s_X4_isRoomFor_54s, if_neg c_74]) _ _ _ (fun q => (fL54 q)) hP hS ls (by rw [(show nI (t54 + 1) = nI t54 + 1 by exact nI_succ _)]; exact lv_sub hl [0, 1, 2, 3, 4, 5] rfl)
            · skip
              refine lv_iload hx hb dX4_isRoomFor_77 (lv_at hl 1 rfl) ?_
              refine lv_aload_n hx hb dX4_isRoomFor_79 rfl (lv_at hl 3 rfl) ?_
              refine q_get (v := .ref (ad h)) (fs := [.ref (ad ta), .ref (ad h), .int ft]) X hK hP fX4_isRoomFor_15 h_rd ((fL54 rd ).trans m_rd) rfl dX4_isRoomFor_80 ?_
              refine q_get (v := .ref (ad (h + 5))) (fs := hallF ad h hv) X hK hP fX4_isRoomFor_136 h_h ((fL54 h ).trans m_h) rfl dX4_isRoomFor_83 ?_
              refine lv_iload hx hb dX4_isRoomFor_86 (lv_at hl 0 rfl) ?_
              refine lv_iconst (v := 3) hx hb dX4_isRoomFor_88 (by decide) ?_
              refine q_rdV (As := [.int (nI t54), .int 3]) (rest := [.int x54_4]) (c_X8_at_ l D cB cI cJ ad n ML54 (h + 5) (h + 6) 84 7 tf (nI t54) 3 h_h_5 h_h_6 ((fL54 (h + 5) ).trans m_h_5) ((fL54 (h + 6) ).trans m_h_6) (by decide)) X hK hP hS hl.1 rfl gX4_isRoomFor_X8_at_ yd_X8_at_ ⟨Nat.le_of_ble_eq_true rfl, Nat.le_of_ble_eq_true rfl⟩ h_h_5 ((fL54 (h + 5) ).trans m_h_5) (ci := 8) rfl rfl (Nat.le_of_ble_eq_true rfl) ⟨Nat.zero_le _, Nat.zero_le _⟩ dX4_isRoomFor_89 ?_
              refine lv_iadd hx hb dX4_isRoomFor_92 ?_
              refine lv_istore (lv' := [(4, .int (x54_4 + (tat 84 tf ((nI t54) * 7 + 3)))), (5, .int (nI t54)), (3, .int 1), (0, .ref (ad rd)), (1, .int y), (2, .int z)]) hx hb dX4_isRoomFor_93 hl (by decide) rfl (fun ls hl => ?_)
              refine lv_iinc (v := ((nI t54) + 1)) (lv' := [(5, .int ((nI t54) + 1)), (4, .int (x54_4 + (tat 84 tf ((nI t54) * 7 + 3)))), (3, .int 1), (0, .ref (ad rd)), (1, .int y), (2, .int z)]) hx hb dX4_isRoomFor_95 hl (k := 1) rfl rfl (by decide) rfl (fun ls hl => ?_)
              refine lv_goto (tgt := 54) hx hb dX4_isRoomFor_98 (by decide) ?_
              exact ih_54 (t54 + 1) (x54_4 + (tat 84 tf ((nI t54) * 7 + 3))) (by omega) (by omega) (by rw [s_X4_isRoomFor_54, ← e_x54_4, s_X4_isRoomFor_54s, if_pos c_74]) _ _ _ (fun q => (fL54 q)) hP hS ls (by rw [(show nI (t54 + 1) = nI t54 + 1 by exact nI_succ _)]; exact lv_sub hl [0, 1, 2, 3, 4, 5] rfl)
      exact loop_54 (nt + 1) 0 (tat 84 tf (y * 7 + 3)) (by omega) (by omega) (by rfl) _ _ _ (fun q => rfl) hP hS ls (lv_sub hl [0, 1, 2, 3, 4, 5] rfl)
set_option maxRecDepth 20000 in
theorem fX4_readThing_15 : FL wsX4_readThing RX4 15 4 1 := ⟨RX4, TX4, 3, rfl, by decide +kernel, by decide, by decide +kernel⟩
set_option maxRecDepth 20000 in
theorem fX4_readThing_133 : FL wsX4_readThing RX4 133 0 7 := ⟨RX0, TX0, 12, rfl, by decide +kernel, by decide, by decide +kernel⟩
set_option maxRecDepth 20000 in
theorem fX4_readThing_9 : FL wsX4_readThing RX4 9 4 0 := ⟨RX4, TX4, 3, rfl, by decide +kernel, by decide, by decide +kernel⟩
set_option maxRecDepth 20000 in
theorem fX4_readThing_136 : FL wsX4_readThing RX4 136 0 2 := ⟨RX0, TX0, 12, rfl, by decide +kernel, by decide, by decide +kernel⟩
set_option maxRecDepth 20000 in
theorem fX4_readThing_117 : FL wsX4_readThing RX4 117 0 6 := ⟨RX0, TX0, 12, rfl, by decide +kernel, by decide, by decide +kernel⟩
set_option maxRecDepth 20000 in
theorem fX4_readThing_93 : FL wsX4_readThing RX4 93 9 6 := ⟨RX9, TX9, 8, rfl, by decide +kernel, by decide, by decide +kernel⟩
theorem yd_X4_isRoomFor : YD yX4_isRoomFor 2 := ⟨by decide +kernel, by decide +kernel, by decide +kernel⟩
def s_X4_readThing (en : Nat) (x : Nat) (bf : Nat → Int32) (hv : Nat → Int32) (nt : Nat) (cf : Nat → Int32) (tf : Nat → Int32) (z : Int32) : Int32 := if (hv 7) < 12 then if ((s_X4_isNumber en (nX en bf x) bf 0 60)) = 0 then 0 else if ((s_X4_isNumber en (nX en bf (nX en bf x)) bf 0 (imin 9 (tat 84 (tset 84 (tset 84 (tset 84 tf ((hv 7) * 7 + 0) z) ((hv 7) * 7 + 6) 0) ((hv 7) * 7 + 1) (nmX en bf (nX en bf x))) ((hv 7) * 7 + 1))))) = 0 then 0 else if ((s_X4_isNumber en (nX en bf (nX en bf (nX en bf x))) bf 0 20)) = 0 then 0 else if ((s_X4_isNumber en (nX en bf (nX en bf (nX en bf (nX en bf x)))) bf 0 999)) = 0 then 0 else if (s_X4_isTold en (nX en bf (nX en bf (nX en bf (nX en bf (nX en bf x))))) bf (hv 6)) = 0 then 0 else if (s_X4_isRoomFor nt cf (tset 84 (tset 84 (tset 84 (tset 84 (tset 84 (tset 84 tf ((hv 7) * 7 + 0) z) ((hv 7) * 7 + 6) 0) ((hv 7) * 7 + 1) (nmX en bf (nX en bf x))) ((hv 7) * 7 + 2) (nmX en bf (nX en bf (nX en bf x)))) ((hv 7) * 7 + 3) (nmX en bf (nX en bf (nX en bf (nX en bf x))))) ((hv 7) * 7 + 4) (nmX en bf (nX en bf (nX en bf (nX en bf (nX en bf x)))))) (hv 7) (nmX en bf (nX en bf (nX en bf (nX en bf (nX en bf (nX en bf x))))))) = 0 then 0 else if z = 1 then if ((s_X4_isNumber en (nX en bf (nX en bf (nX en bf (nX en bf (nX en bf (nX en bf x)))))) bf 1 9)) = 0 then 0 else 1 else 1 else (0)
def s_X4_readThing_0_4 (en : Nat) (x : Nat) (bf : Nat → Int32) (hv : Nat → Int32) (nt : Nat) (cf : Nat → Int32) (tf : Nat → Int32) (z : Int32) : Nat := if (hv 7) < 12 then if ((s_X4_isNumber en (nX en bf x) bf 0 60)) = 0 then (nX en bf x) else if ((s_X4_isNumber en (nX en bf (nX en bf x)) bf 0 (imin 9 (tat 84 (tset 84 (tset 84 (tset 84 tf ((hv 7) * 7 + 0) z) ((hv 7) * 7 + 6) 0) ((hv 7) * 7 + 1) (nmX en bf (nX en bf x))) ((hv 7) * 7 + 1))))) = 0 then (nX en bf (nX en bf x)) else if ((s_X4_isNumber en (nX en bf (nX en bf (nX en bf x))) bf 0 20)) = 0 then (nX en bf (nX en bf (nX en bf x))) else if ((s_X4_isNumber en (nX en bf (nX en bf (nX en bf (nX en bf x)))) bf 0 999)) = 0 then (nX en bf (nX en bf (nX en bf (nX en bf x)))) else if (s_X4_isTold en (nX en bf (nX en bf (nX en bf (nX en bf (nX en bf x))))) bf (hv 6)) = 0 then (nX en bf (nX en bf (nX en bf (nX en bf (nX en bf x))))) else if (s_X4_isRoomFor nt cf (tset 84 (tset 84 (tset 84 (tset 84 (tset 84 (tset 84 tf ((hv 7) * 7 + 0) z) ((hv 7) * 7 + 6) 0) ((hv 7) * 7 + 1) (nmX en bf (nX en bf x))) ((hv 7) * 7 + 2) (nmX en bf (nX en bf (nX en bf x)))) ((hv 7) * 7 + 3) (nmX en bf (nX en bf (nX en bf (nX en bf x))))) ((hv 7) * 7 + 4) (nmX en bf (nX en bf (nX en bf (nX en bf (nX en bf x)))))) (hv 7) (nmX en bf (nX en bf (nX en bf (nX en bf (nX en bf (nX en bf x))))))) = 0 then (nX en bf (nX en bf (nX en bf (nX en bf (nX en bf x))))) else if z = 1 then if ((s_X4_isNumber en (nX en bf (nX en bf (nX en bf (nX en bf (nX en bf (nX en bf x)))))) bf 1 9)) = 0 then (nX en bf (nX en bf (nX en bf (nX en bf (nX en bf (nX en bf x)))))) else (nX en bf (nX en bf (nX en bf (nX en bf (nX en bf (nX en bf (nX en bf x))))))) else (nX en bf (nX en bf (nX en bf (nX en bf (nX en bf (nX en bf x)))))) else x
def s_X4_readThing_1_2 (en : Nat) (x : Nat) (ft : Int32) (bf : Nat → Int32) (hv : Nat → Int32) (nt : Nat) (cf : Nat → Int32) (tf : Nat → Int32) (z : Int32) : Int32 := if (hv 7) < 12 then if ((s_X4_isNumber en (nX en bf x) bf 0 60)) = 0 then (fkN en bf (nX en bf x)) else if ((s_X4_isNumber en (nX en bf (nX en bf x)) bf 0 (imin 9 (tat 84 (tset 84 (tset 84 (tset 84 tf ((hv 7) * 7 + 0) z) ((hv 7) * 7 + 6) 0) ((hv 7) * 7 + 1) (nmX en bf (nX en bf x))) ((hv 7) * 7 + 1))))) = 0 then (fkN en bf (nX en bf (nX en bf x))) else if ((s_X4_isNumber en (nX en bf (nX en bf (nX en bf x))) bf 0 20)) = 0 then (fkN en bf (nX en bf (nX en bf (nX en bf x)))) else if ((s_X4_isNumber en (nX en bf (nX en bf (nX en bf (nX en bf x)))) bf 0 999)) = 0 then (fkN en bf (nX en bf (nX en bf (nX en bf (nX en bf x))))) else if (s_X4_isTold en (nX en bf (nX en bf (nX en bf (nX en bf (nX en bf x))))) bf (hv 6)) = 0 then (fkT en (nX en bf (nX en bf (nX en bf (nX en bf (nX en bf x))))) bf) else if (s_X4_isRoomFor nt cf (tset 84 (tset 84 (tset 84 (tset 84 (tset 84 (tset 84 tf ((hv 7) * 7 + 0) z) ((hv 7) * 7 + 6) 0) ((hv 7) * 7 + 1) (nmX en bf (nX en bf x))) ((hv 7) * 7 + 2) (nmX en bf (nX en bf (nX en bf x)))) ((hv 7) * 7 + 3) (nmX en bf (nX en bf (nX en bf (nX en bf x))))) ((hv 7) * 7 + 4) (nmX en bf (nX en bf (nX en bf (nX en bf (nX en bf x)))))) (hv 7) (nmX en bf (nX en bf (nX en bf (nX en bf (nX en bf (nX en bf x))))))) = 0 then 6 else if z = 1 then if ((s_X4_isNumber en (nX en bf (nX en bf (nX en bf (nX en bf (nX en bf (nX en bf x)))))) bf 1 9)) = 0 then (fkN en bf (nX en bf (nX en bf (nX en bf (nX en bf (nX en bf (nX en bf x))))))) else ft else ft else 2
def s_X4_readThing_2_1 (en : Nat) (x : Nat) (bf : Nat → Int32) (hv : Nat → Int32) (nt : Nat) (cf : Nat → Int32) (tf : Nat → Int32) (z : Int32) : Nat → Int32 := if (hv 7) < 12 then if ((s_X4_isNumber en (nX en bf x) bf 0 60)) = 0 then (upd hv 7 ((hv 7) + 1)) else if ((s_X4_isNumber en (nX en bf (nX en bf x)) bf 0 (imin 9 (tat 84 (tset 84 (tset 84 (tset 84 tf ((hv 7) * 7 + 0) z) ((hv 7) * 7 + 6) 0) ((hv 7) * 7 + 1) (nmX en bf (nX en bf x))) ((hv 7) * 7 + 1))))) = 0 then (upd hv 7 ((hv 7) + 1)) else if ((s_X4_isNumber en (nX en bf (nX en bf (nX en bf x))) bf 0 20)) = 0 then (upd hv 7 ((hv 7) + 1)) else if ((s_X4_isNumber en (nX en bf (nX en bf (nX en bf (nX en bf x)))) bf 0 999)) = 0 then (upd hv 7 ((hv 7) + 1)) else if (s_X4_isTold en (nX en bf (nX en bf (nX en bf (nX en bf (nX en bf x))))) bf (hv 6)) = 0 then (upd hv 7 ((hv 7) + 1)) else if (s_X4_isRoomFor nt cf (tset 84 (tset 84 (tset 84 (tset 84 (tset 84 (tset 84 tf ((hv 7) * 7 + 0) z) ((hv 7) * 7 + 6) 0) ((hv 7) * 7 + 1) (nmX en bf (nX en bf x))) ((hv 7) * 7 + 2) (nmX en bf (nX en bf (nX en bf x)))) ((hv 7) * 7 + 3) (nmX en bf (nX en bf (nX en bf (nX en bf x))))) ((hv 7) * 7 + 4) (nmX en bf (nX en bf (nX en bf (nX en bf (nX en bf x)))))) (hv 7) (nmX en bf (nX en bf (nX en bf (nX en bf (nX en bf (nX en bf x))))))) = 0 then (upd hv 7 ((hv 7) + 1)) else if z = 1 then if ((s_X4_isNumber en (nX en bf (nX en bf (nX en bf (nX en bf (nX en bf (nX en bf x)))))) bf 1 9)) = 0 then (upd hv 7 ((hv 7) + 1)) else (upd hv 7 ((hv 7) + 1)) else (upd hv 7 ((hv 7) + 1)) else hv
def s_X4_readThing_3_f (en : Nat) (x : Nat) (bf : Nat → Int32) (hv : Nat → Int32) (nt : Nat) (cf : Nat → Int32) (tf : Nat → Int32) (z : Int32) : Nat → Int32 := if (hv 7) < 12 then if ((s_X4_isNumber en (nX en bf x) bf 0 60)) = 0 then (tset 84 (tset 84 tf ((hv 7) * 7 + 0) z) ((hv 7) * 7 + 6) 0) else if ((s_X4_isNumber en (nX en bf (nX en bf x)) bf 0 (imin 9 (tat 84 (tset 84 (tset 84 (tset 84 tf ((hv 7) * 7 + 0) z) ((hv 7) * 7 + 6) 0) ((hv 7) * 7 + 1) (nmX en bf (nX en bf x))) ((hv 7) * 7 + 1))))) = 0 then (tset 84 (tset 84 (tset 84 tf ((hv 7) * 7 + 0) z) ((hv 7) * 7 + 6) 0) ((hv 7) * 7 + 1) (nmX en bf (nX en bf x))) else if ((s_X4_isNumber en (nX en bf (nX en bf (nX en bf x))) bf 0 20)) = 0 then (tset 84 (tset 84 (tset 84 (tset 84 tf ((hv 7) * 7 + 0) z) ((hv 7) * 7 + 6) 0) ((hv 7) * 7 + 1) (nmX en bf (nX en bf x))) ((hv 7) * 7 + 2) (nmX en bf (nX en bf (nX en bf x)))) else if ((s_X4_isNumber en (nX en bf (nX en bf (nX en bf (nX en bf x)))) bf 0 999)) = 0 then (tset 84 (tset 84 (tset 84 (tset 84 (tset 84 tf ((hv 7) * 7 + 0) z) ((hv 7) * 7 + 6) 0) ((hv 7) * 7 + 1) (nmX en bf (nX en bf x))) ((hv 7) * 7 + 2) (nmX en bf (nX en bf (nX en bf x)))) ((hv 7) * 7 + 3) (nmX en bf (nX en bf (nX en bf (nX en bf x))))) else if (s_X4_isTold en (nX en bf (nX en bf (nX en bf (nX en bf (nX en bf x))))) bf (hv 6)) = 0 then (tset 84 (tset 84 (tset 84 (tset 84 (tset 84 (tset 84 tf ((hv 7) * 7 + 0) z) ((hv 7) * 7 + 6) 0) ((hv 7) * 7 + 1) (nmX en bf (nX en bf x))) ((hv 7) * 7 + 2) (nmX en bf (nX en bf (nX en bf x)))) ((hv 7) * 7 + 3) (nmX en bf (nX en bf (nX en bf (nX en bf x))))) ((hv 7) * 7 + 4) (nmX en bf (nX en bf (nX en bf (nX en bf (nX en bf x)))))) else if (s_X4_isRoomFor nt cf (tset 84 (tset 84 (tset 84 (tset 84 (tset 84 (tset 84 tf ((hv 7) * 7 + 0) z) ((hv 7) * 7 + 6) 0) ((hv 7) * 7 + 1) (nmX en bf (nX en bf x))) ((hv 7) * 7 + 2) (nmX en bf (nX en bf (nX en bf x)))) ((hv 7) * 7 + 3) (nmX en bf (nX en bf (nX en bf (nX en bf x))))) ((hv 7) * 7 + 4) (nmX en bf (nX en bf (nX en bf (nX en bf (nX en bf x)))))) (hv 7) (nmX en bf (nX en bf (nX en bf (nX en bf (nX en bf (nX en bf x))))))) = 0 then (tset 84 (tset 84 (tset 84 (tset 84 (tset 84 (tset 84 tf ((hv 7) * 7 + 0) z) ((hv 7) * 7 + 6) 0) ((hv 7) * 7 + 1) (nmX en bf (nX en bf x))) ((hv 7) * 7 + 2) (nmX en bf (nX en bf (nX en bf x)))) ((hv 7) * 7 + 3) (nmX en bf (nX en bf (nX en bf (nX en bf x))))) ((hv 7) * 7 + 4) (nmX en bf (nX en bf (nX en bf (nX en bf (nX en bf x)))))) else if z = 1 then if ((s_X4_isNumber en (nX en bf (nX en bf (nX en bf (nX en bf (nX en bf (nX en bf x)))))) bf 1 9)) = 0 then (tset 84 (tset 84 (tset 84 (tset 84 (tset 84 (tset 84 (tset 84 tf ((hv 7) * 7 + 0) z) ((hv 7) * 7 + 6) 0) ((hv 7) * 7 + 1) (nmX en bf (nX en bf x))) ((hv 7) * 7 + 2) (nmX en bf (nX en bf (nX en bf x)))) ((hv 7) * 7 + 3) (nmX en bf (nX en bf (nX en bf (nX en bf x))))) ((hv 7) * 7 + 4) (nmX en bf (nX en bf (nX en bf (nX en bf (nX en bf x)))))) ((hv 7) * 7 + 5) (nmX en bf (nX en bf (nX en bf (nX en bf (nX en bf (nX en bf x))))))) else (tset 84 (tset 84 (tset 84 (tset 84 (tset 84 (tset 84 (tset 84 (tset 84 tf ((hv 7) * 7 + 0) z) ((hv 7) * 7 + 6) 0) ((hv 7) * 7 + 1) (nmX en bf (nX en bf x))) ((hv 7) * 7 + 2) (nmX en bf (nX en bf (nX en bf x)))) ((hv 7) * 7 + 3) (nmX en bf (nX en bf (nX en bf (nX en bf x))))) ((hv 7) * 7 + 4) (nmX en bf (nX en bf (nX en bf (nX en bf (nX en bf x)))))) ((hv 7) * 7 + 5) (nmX en bf (nX en bf (nX en bf (nX en bf (nX en bf (nX en bf x))))))) ((hv 7) * 7 + 6) (nmX en bf (nX en bf (nX en bf (nX en bf (nX en bf (nX en bf (nX en bf x)))))))) else (tset 84 (tset 84 (tset 84 (tset 84 (tset 84 (tset 84 (tset 84 tf ((hv 7) * 7 + 0) z) ((hv 7) * 7 + 6) 0) ((hv 7) * 7 + 1) (nmX en bf (nX en bf x))) ((hv 7) * 7 + 2) (nmX en bf (nX en bf (nX en bf x)))) ((hv 7) * 7 + 3) (nmX en bf (nX en bf (nX en bf (nX en bf x))))) ((hv 7) * 7 + 4) (nmX en bf (nX en bf (nX en bf (nX en bf (nX en bf x)))))) ((hv 7) * 7 + 5) (nmX en bf (nX en bf (nX en bf (nX en bf (nX en bf (nX en bf x))))))) else tf
set_option maxHeartbeats 2000000 in
set_option maxRecDepth 100000 in
theorem c_X4_readThing (l : Launch) (D : va_G) (cB cI cJ : ClassId) (ad : Nat → Nat) (n : Nat) (M : Nat → va_E) (hI : ipI ad n) (rd ta h en x : Nat) (ln nu ft : Int32) (bf : Nat → Int32) (hv : Nat → Int32) (nt : Nat) (cf tf : Nat → Int32) (z : Int32) (h_ta : ta < n) (h_ta_1 : ta + 1 < n) (h_rd : rd < n) (h_h : h < n) (h_h_3 : h + 3 < n) (h_h_4 : h + 4 < n) (h_h_5 : h + 5 < n) (h_h_6 : h + 6 < n) (m_ta : M ta = .inr (9, tapeX ad ta ln en bf x nu)) (m_ta_1 : M (ta + 1) = .inl (cB, 700, .inl bf)) (m_rd : M rd = .inr (4, [.ref (ad ta), .ref (ad h), .int ft])) (m_h : M h = .inr (0, hallF ad h hv)) (m_h_3 : M (h + 3) = .inr (8, [.int 5, .ref (ad (h + 4))])) (m_h_4 : M (h + 4) = .inl (cI, 25, .inl cf)) (m_h_5 : M (h + 5) = .inr (8, [.int 7, .ref (ad (h + 6))])) (m_h_6 : M (h + 6) = .inl (cI, 84, .inl tf)) (hxe : x ≤ en) (hen : en ≤ 700) (srt : rd < ta ∨ ta + 1 < rd) (srh : rd < h ∨ h + 15 < rd) (sth : ta + 1 < h ∨ h + 15 < ta) (h7 : hv 7 = nI nt) (hnt : nt ≤ 12) : cWi l D cB cI cJ ad n M yX4_readThing wsX4_readThing 7 157 [.ref (ad rd), .int z] (fun r M' => ∃ (v0__ : Int32), r = s_X4_readThing en x bf hv nt cf tf z ∧ M' ta = .inr (9, tapeX ad ta ln en bf (s_X4_readThing_0_4 en x bf hv nt cf tf z) v0__) ∧ M' rd = .inr (4, [.ref (ad ta), .ref (ad h), .int (s_X4_readThing_1_2 en x ft bf hv nt cf tf z)]) ∧ M' h = .inr (0, hallF ad h (s_X4_readThing_2_1 en x bf hv nt cf tf z)) ∧ M' (h + 6) = .inl (cI, 84, .inl (s_X4_readThing_3_f en x bf hv nt cf tf z)) ∧ ∀ q : Nat, q ≠ ta → q ≠ rd → q ≠ h → q ≠ h + 6 → M' q = M q) := by
  refine q_body (cc := cX4_readThing) (maxL := 4) (ret := (some .boolean)) (by decide) rfl (Nat.le_of_ble_eq_true rfl) ?_
  intro p e s m args below meth c ls X hr hlocks hK hP hl
  obtain ⟨hx, hb, hml, hown, hts⟩ := id X
  have hS : va_S (ipA ad n) s.heap s.heap [] := va_S.rf
  have hl : lv_has ls 4 [(0, .ref (ad rd)), (1, .int z)] := hl
  refine lv_aload_n hx hb dX4_readThing_0 rfl (lv_at hl 0 rfl) ?_
  refine q_get (v := .ref (ad h)) (fs := [.ref (ad ta), .ref (ad h), .int ft]) X hK hP fX4_readThing_15 h_rd m_rd rfl dX4_readThing_1 ?_
  refine q_get (v := .int (hv 7)) (fs := hallF ad h hv) X hK hP fX4_readThing_133 h_h m_h rfl dX4_readThing_4 ?_
  refine lv_istore_n (lv' := [(2, .int (hv 7)), (0, .ref (ad rd)), (1, .int z)]) hx hb dX4_readThing_7 rfl hl (by decide) rfl (fun ls hl => ?_)
  refine lv_iload_n hx hb dX4_readThing_8 rfl (lv_at hl 0 rfl) ?_
  refine lv_bipush (v := 12) hx hb dX4_readThing_9 (by decide) ?_
  refine lv_icmp_lt (tgt := 20) hx hb dX4_readThing_11 (by decide) (fun c_11 => ?_) (fun c_11 => ?_)
  · skip
    refine lv_aload_n hx hb dX4_readThing_20 rfl (lv_at hl 1 rfl) ?_
    refine q_get (v := .ref (ad ta)) (fs := [.ref (ad ta), .ref (ad h), .int ft]) X hK hP fX4_readThing_9 h_rd m_rd rfl dX4_readThing_21 ?_
    refine q_wrVv (As := []) (rest := []) (c_X9_adv l D cB cI cJ ad n M hI ta en x ln nu bf h_ta h_ta_1 m_ta m_ta_1 hxe hen) X hK hP hS hl.1 rfl gX4_readThing_X9_advance yd_X9_advance ⟨Nat.le_of_ble_eq_true rfl, Nat.le_of_ble_eq_true rfl⟩ h_ta m_ta (ci := 9) rfl rfl (Nat.le_of_ble_eq_true rfl) ⟨Nat.zero_le _, Nat.zero_le _⟩ dX4_readThing_24 (fun M2 H locs hp1 hP hS => ?_)
    obtain ⟨g4, fr5⟩ := hp1
    refine lv_aload_n hx hb dX4_readThing_27 rfl (lv_at hl 1 rfl) ?_
    refine q_get (v := .ref (ad h)) (fs := [.ref (ad ta), .ref (ad h), .int ft]) X hK hP fX4_readThing_15 h_rd ((fr5 rd (by omega)).trans m_rd) rfl dX4_readThing_28 ?_
    refine q_get (v := .ref (ad (h + 5))) (fs := hallF ad h hv) X hK hP fX4_readThing_136 h_h ((fr5 h (by omega)).trans m_h) rfl dX4_readThing_31 ?_
    refine lv_iload_n hx hb dX4_readThing_34 rfl (lv_at hl 0 rfl) ?_
    refine lv_iconst (v := 0) hx hb dX4_readThing_35 (by decide) ?_
    refine lv_iload_n hx hb dX4_readThing_36 rfl (lv_at hl 2 rfl) ?_
    refine q_wrVv (As := [.int (hv 7), .int 0, .int z]) (rest := []) (c_X8_set_ l D cB cI cJ ad n M2 hI (h + 5) (h + 6) 84 7 tf (hv 7) 0 z h_h_5 h_h_6 ((fr5 (h + 5) (by omega)).trans m_h_5) ((fr5 (h + 6) (by omega)).trans m_h_6) (by decide)) X hK hP hS hl.1 rfl gX4_readThing_X8_set_ yd_X8_set_ ⟨Nat.le_of_ble_eq_true rfl, Nat.le_of_ble_eq_true rfl⟩ h_h_5 ((fr5 (h + 5) (by omega)).trans m_h_5) (ci := 8) rfl rfl (Nat.le_of_ble_eq_true rfl) ⟨Nat.zero_le _, Nat.zero_le _⟩ dX4_readThing_37 (fun M7 H locs hp6 hP hS => ?_)
    obtain ⟨g9, fr10⟩ := hp6
    refine lv_aload_n hx hb dX4_readThing_40 rfl (lv_at hl 1 rfl) ?_
    refine q_get (v := .ref (ad h)) (fs := [.ref (ad ta), .ref (ad h), .int ft]) X hK hP fX4_readThing_15 h_rd ((fr10 rd (by omega)).trans ((fr5 rd (by omega)).trans m_rd)) rfl dX4_readThing_41 ?_
    refine q_get (v := .ref (ad (h + 5))) (fs := hallF ad h hv) X hK hP fX4_readThing_136 h_h ((fr10 h (by omega)).trans ((fr5 h (by omega)).trans m_h)) rfl dX4_readThing_44 ?_
    refine lv_iload_n hx hb dX4_readThing_47 rfl (lv_at hl 0 rfl) ?_
    refine lv_bipush (v := 6) hx hb dX4_readThing_48 (by decide) ?_
    refine lv_iconst (v := 0) hx hb dX4_readThing_50 (by decide) ?_
    refine q_wrVv (As := [.int (hv 7), .int 6, .int 0]) (rest := []) (c_X8_set_ l D cB cI cJ ad n M7 hI (h + 5) (h + 6) 84 7 (tset 84 tf ((hv 7) * 7 + 0) z) (hv 7) 6 0 h_h_5 h_h_6 ((fr10 (h + 5) (by omega)).trans ((fr5 (h + 5) (by omega)).trans m_h_5)) g9 (by decide)) X hK hP hS hl.1 rfl gX4_readThing_X8_set_ yd_X8_set_ ⟨Nat.le_of_ble_eq_true rfl, Nat.le_of_ble_eq_true rfl⟩ h_h_5 ((fr10 (h + 5) (by omega)).trans ((fr5 (h + 5) (by omega)).trans m_h_5)) (ci := 8) rfl rfl (Nat.le_of_ble_eq_true rfl) ⟨Nat.zero_le _, Nat.zero_le _⟩ dX4_readThing_51 (fun M12 H locs hp11 hP hS => ?_)
    obtain ⟨g14, fr15⟩ := hp11
    refine lv_aload_n hx hb dX4_readThing_54 rfl (lv_at hl 1 rfl) ?_
    refine lv_aload_n hx hb dX4_readThing_55 rfl (lv_at hl 1 rfl) ?_
    refine q_get (v := .ref (ad h)) (fs := [.ref (ad ta), .ref (ad h), .int ft]) X hK hP fX4_readThing_15 h_rd ((fr15 rd (by omega)).trans ((fr10 rd (by omega)).trans ((fr5 rd (by omega)).trans m_rd))) rfl dX4_readThing_56 ?_
    refine q_get (v := .ref (ad (h + 5))) (fs := hallF ad h hv) X hK hP fX4_readThing_136 h_h ((fr15 h (by omega)).trans ((fr10 h (by omega)).trans ((fr5 h (by omega)).trans m_h))) rfl dX4_readThing_59 ?_
    refine lv_iload_n hx hb dX4_readThing_62 rfl (lv_at hl 0 rfl) ?_
    refine lv_iconst (v := 1) hx hb dX4_readThing_63 (by decide) ?_
    refine lv_iconst (v := 0) hx hb dX4_readThing_64 (by decide) ?_
    refine lv_bipush (v := 60) hx hb dX4_readThing_65 (by decide) ?_
    refine q_wrVi (As := [.ref (ad (h + 5)), .int (hv 7), .int 1, .int 0, .int 60]) (rest := []) (c_X4_readNumber l D cB cI cJ ad n M12 hI rd ta h en (nX en bf x) ln (uX en bf x nu) ft bf 84 7 (tset 84 (tset 84 tf ((hv 7) * 7 + 0) z) ((hv 7) * 7 + 6) 0) (h + 5) (hv 7) 1 0 60 h_ta h_ta_1 h_rd h_h_5 h_h_6 ((fr15 ta (by omega)).trans ((fr10 ta (by omega)).trans g4)) ((fr15 (ta + 1) (by omega)).trans ((fr10 (ta + 1) (by omega)).trans ((fr5 (ta + 1) (by omega)).trans m_ta_1))) ((fr15 rd (by omega)).trans ((fr10 rd (by omega)).trans ((fr5 rd (by omega)).trans m_rd))) ((fr15 (h + 5) (by omega)).trans ((fr10 (h + 5) (by omega)).trans ((fr5 (h + 5) (by omega)).trans m_h_5))) g14 (by first | (apply nX_le <;> (repeat' (first | assumption | apply nX_le))) | assumption | omega | (repeat' (first | assumption | apply nX_le | exact isN_k (by assumption) | exact isT_k (by assumption))) | exact vp_in_nI (by omega) (by decide)) hen srt (by decide) (by first | (apply nX_le <;> (repeat' (first | assumption | apply nX_le))) | assumption | omega | (repeat' (first | assumption | apply nX_le | exact isN_k (by assumption) | exact isT_k (by assumption))) | exact vp_in_nI (by omega) (by decide)) (by first | (apply nX_le <;> (repeat' (first | assumption | apply nX_le))) | assumption | omega | (repeat' (first | assumption | apply nX_le | exact isN_k (by assumption) | exact isT_k (by assumption))) | exact vp_in_nI (by omega) (by decide))) X hK hP hS hl.1 rfl gX4_readThing_X4_readNumber yd_X4_readNumber ⟨Nat.le_of_ble_eq_true rfl, Nat.le_of_ble_eq_true rfl⟩ h_rd ((fr15 rd (by omega)).trans ((fr10 rd (by omega)).trans ((fr5 rd (by omega)).trans m_rd))) (ci := 4) rfl rfl (Nat.le_of_ble_eq_true rfl) ⟨Nat.zero_le _, Nat.zero_le _⟩ dX4_readThing_67 (fun r18 M17 H locs hp16 hP hS => ?_)
    obtain ⟨v0_19, rfl, g20, g21, g22, fr23⟩ := hp16
    refine lv_if_eq (tgt := 220) hx hb dX4_readThing_70 (by decide) (fun c_70 => ?_) (fun c_70 => ?_)
    · skip
      have g24 : M17 ta = .inr (9, tapeX ad ta ln en bf (nX en bf x) v0_19) := by refine g20.trans ?_; simp only [pk0_t c_70]
      have g25 : M17 rd = .inr (4, [.ref (ad ta), .ref (ad h), .int (fkN en bf (nX en bf x))]) := by refine g21.trans ?_; simp only [pk0_t c_70]
      have g26 : M17 (h + 6) = .inl (cI, 84, .inl (tset 84 (tset 84 tf ((hv 7) * 7 + 0) z) ((hv 7) * 7 + 6) 0)) := by refine g22.trans ?_; simp only [pk0_t c_70]
      refine lv_iconst (v := 0) hx hb dX4_readThing_220 (by decide) ?_
      refine lv_istore_n (lv' := [(3, .int 0), (2, .int (hv 7)), (0, .ref (ad rd)), (1, .int z)]) hx hb dX4_readThing_221 rfl hl (by decide) rfl (fun ls hl => ?_)
      refine lv_aload_n hx hb dX4_readThing_222 rfl (lv_at hl 2 rfl) ?_
      refine q_get (v := .ref (ad h)) (fs := [.ref (ad ta), .ref (ad h), .int (fkN en bf (nX en bf x))]) X hK hP fX4_readThing_15 h_rd g25 rfl dX4_readThing_223 ?_
      refine lv_dup hx hb dX4_readThing_226 rfl ?_
      refine q_get (v := .int (hv 7)) (fs := hallF ad h hv) X hK hP fX4_readThing_133 h_h ((fr23 h (by omega) (by omega) (by omega)).trans ((fr15 h (by omega)).trans ((fr10 h (by omega)).trans ((fr5 h (by omega)).trans m_h)))) rfl dX4_readThing_227 ?_
      refine lv_iconst (v := 1) hx hb dX4_readThing_230 (by decide) ?_
      refine lv_iadd hx hb dX4_readThing_231 ?_
      refine q_put (fs := hallF ad h hv) (fs' := hallF ad h (upd hv 7 ((hv 7) + 1))) X hK hI hP hS fX4_readThing_133 fw_0_7 h_h ((fr23 h (by omega) (by omega) (by omega)).trans ((fr15 h (by omega)).trans ((fr10 h (by omega)).trans ((fr5 h (by omega)).trans m_h)))) rfl rfl (Nat.le_of_ble_eq_true rfl) rfl dX4_readThing_232 (fun H locs hP hS => ?_)
      refine lv_iload_n hx hb dX4_readThing_235 rfl (lv_at hl 0 rfl) ?_
      exact q_wzret X hr hlocks hP hS (rfl) ⟨v0_19, (by rw [s_X4_readThing, if_pos c_11, if_pos c_70]), (by rw [s_X4_readThing_0_4, if_pos c_11, if_pos c_70]; exact ((va_up_ne M17 (.inr (0, hallF ad h (upd hv 7 ((hv 7) + 1)))) (show ta ≠ h by omega)).trans g24)), (by rw [s_X4_readThing_1_2, if_pos c_11, if_pos c_70]; exact ((va_up_ne M17 (.inr (0, hallF ad h (upd hv 7 ((hv 7) + 1)))) (show rd ≠ h by omega)).trans g25)), (by rw [s_X4_readThing_2_1, if_pos c_11, if_pos c_70]; exact (va_up_self M17 h (.inr (0, hallF ad h (upd hv 7 ((hv 7) + 1)))))), (by rw [s_X4_readThing_3_f, if_pos c_11, if_pos c_70]; exact ((va_up_ne M17 (.inr (0, hallF ad h (upd hv 7 ((hv 7) + 1)))) (show h + 6 ≠ h by omega)).trans g26)), (fun q n0 n1 n2 n3 => ((va_up_ne _ _ n2).trans ((fr23 q n0 n1 n3).trans ((fr15 q n3).trans ((fr10 q n3).trans (fr5 q n0))))))⟩ dX4_readThing_236
    · skip
      have g29 : M17 ta = .inr (9, tapeX ad ta ln en bf (nX en bf (nX en bf x)) v0_19) := by refine g20.trans ?_; simp only [pk0_f c_70]
      have g30 : M17 rd = .inr (4, [.ref (ad ta), .ref (ad h), .int ft]) := by refine g21.trans ?_; simp only [pk0_f c_70]
      have g31 : M17 (h + 6) = .inl (cI, 84, .inl (tset 84 (tset 84 (tset 84 tf ((hv 7) * 7 + 0) z) ((hv 7) * 7 + 6) 0) ((hv 7) * 7 + 1) (nmX en bf (nX en bf x)))) := by refine g22.trans ?_; simp only [pk0_f c_70]
      refine lv_aload_n hx hb dX4_readThing_73 rfl (lv_at hl 1 rfl) ?_
      refine lv_aload_n hx hb dX4_readThing_74 rfl (lv_at hl 1 rfl) ?_
      refine q_get (v := .ref (ad h)) (fs := [.ref (ad ta), .ref (ad h), .int ft]) X hK hP fX4_readThing_15 h_rd g30 rfl dX4_readThing_75 ?_
      refine q_get (v := .ref (ad (h + 5))) (fs := hallF ad h hv) X hK hP fX4_readThing_136 h_h ((fr23 h (by omega) (by omega) (by omega)).trans ((fr15 h (by omega)).trans ((fr10 h (by omega)).trans ((fr5 h (by omega)).trans m_h)))) rfl dX4_readThing_78 ?_
      refine lv_iload_n hx hb dX4_readThing_81 rfl (lv_at hl 0 rfl) ?_
      refine lv_iconst (v := 2) hx hb dX4_readThing_82 (by decide) ?_
      refine lv_iconst (v := 0) hx hb dX4_readThing_83 (by decide) ?_
      refine lv_bipush (v := 9) hx hb dX4_readThing_84 (by decide) ?_
      refine lv_aload_n hx hb dX4_readThing_86 rfl (lv_at hl 1 rfl) ?_
      refine q_get (v := .ref (ad h)) (fs := [.ref (ad ta), .ref (ad h), .int ft]) X hK hP fX4_readThing_15 h_rd g30 rfl dX4_readThing_87 ?_
      refine q_get (v := .ref (ad (h + 5))) (fs := hallF ad h hv) X hK hP fX4_readThing_136 h_h ((fr23 h (by omega) (by omega) (by omega)).trans ((fr15 h (by omega)).trans ((fr10 h (by omega)).trans ((fr5 h (by omega)).trans m_h)))) rfl dX4_readThing_90 ?_
      refine lv_iload_n hx hb dX4_readThing_93 rfl (lv_at hl 0 rfl) ?_
      refine lv_iconst (v := 1) hx hb dX4_readThing_94 (by decide) ?_
      refine q_rdV (As := [.int (hv 7), .int 1]) (rest := [.int 9, .int 0, .int 2, .int (hv 7), .ref (ad (h + 5)), .ref (ad rd)]) (c_X8_at_ l D cB cI cJ ad n M17 (h + 5) (h + 6) 84 7 (tset 84 (tset 84 (tset 84 tf ((hv 7) * 7 + 0) z) ((hv 7) * 7 + 6) 0) ((hv 7) * 7 + 1) (nmX en bf (nX en bf x))) (hv 7) 1 h_h_5 h_h_6 ((fr23 (h + 5) (by omega) (by omega) (by omega)).trans ((fr15 (h + 5) (by omega)).trans ((fr10 (h + 5) (by omega)).trans ((fr5 (h + 5) (by omega)).trans m_h_5)))) g31 (by decide)) X hK hP hS hl.1 rfl gX4_readThing_X8_at_ yd_X8_at_ ⟨Nat.le_of_ble_eq_true rfl, Nat.le_of_ble_eq_true rfl⟩ h_h_5 ((fr23 (h + 5) (by omega) (by omega) (by omega)).trans ((fr15 (h + 5) (by omega)).trans ((fr10 (h + 5) (by omega)).trans ((fr5 (h + 5) (by omega)).trans m_h_5)))) (ci := 8) rfl rfl (Nat.le_of_ble_eq_true rfl) ⟨Nat.zero_le _, Nat.zero_le _⟩ dX4_readThing_95 ?_
      refine q_min X hl.1 (by decide +kernel) (by decide +kernel) (by decide +kernel) (by decide +kernel) ⟨Nat.le_of_ble_eq_true rfl, Nat.le_of_ble_eq_true rfl⟩ (Nat.le_of_ble_eq_true rfl) ⟨Nat.zero_le _, Nat.zero_le _⟩ dX4_readThing_98 ?_
      refine q_wrVi (As := [.ref (ad (h + 5)), .int (hv 7), .int 2, .int 0, .int (imin 9 (tat 84 (tset 84 (tset 84 (tset 84 tf ((hv 7) * 7 + 0) z) ((hv 7) * 7 + 6) 0) ((hv 7) * 7 + 1) (nmX en bf (nX en bf x))) ((hv 7) * 7 + 1)))]) (rest := []) (c_X4_readNumber l D cB cI cJ ad n M17 hI rd ta h en (nX en bf (nX en bf x)) ln v0_19 ft bf 84 7 (tset 84 (tset 84 (tset 84 tf ((hv 7) * 7 + 0) z) ((hv 7) * 7 + 6) 0) ((hv 7) * 7 + 1) (nmX en bf (nX en bf x))) (h + 5) (hv 7) 2 0 (imin 9 (tat 84 (tset 84 (tset 84 (tset 84 tf ((hv 7) * 7 + 0) z) ((hv 7) * 7 + 6) 0) ((hv 7) * 7 + 1) (nmX en bf (nX en bf x))) ((hv 7) * 7 + 1))) h_ta h_ta_1 h_rd h_h_5 h_h_6 g29 ((fr23 (ta + 1) (by omega) (by omega) (by omega)).trans ((fr15 (ta + 1) (by omega)).trans ((fr10 (ta + 1) (by omega)).trans ((fr5 (ta + 1) (by omega)).trans m_ta_1)))) g30 ((fr23 (h + 5) (by omega) (by omega) (by omega)).trans ((fr15 (h + 5) (by omega)).trans ((fr10 (h + 5) (by omega)).trans ((fr5 (h + 5) (by omega)).trans m_h_5)))) g31 (by first | (apply nX_le <;> (repeat' (first | assumption | apply nX_le))) | assumption | omega | (repeat' (first | assumption | apply nX_le | exact isN_k (by assumption) | exact isT_k (by assumption))) | exact vp_in_nI (by omega) (by decide)) hen srt (by decide) (by first | (apply nX_le <;> (repeat' (first | assumption | apply nX_le))) | assumption | omega | (repeat' (first | assumption | apply nX_le | exact isN_k (by assumption) | exact isT_k (by assumption))) | exact vp_in_nI (by omega) (by decide)) (by first | (apply nX_le <;> (repeat' (first | assumption | apply nX_le))) | assumption | omega | (repeat' (first | assumption | apply nX_le | exact isN_k (by assumption) | exact isT_k (by assumption))) | exact vp_in_nI (by omega) (by decide))) X hK hP hS hl.1 rfl gX4_readThing_X4_readNumber yd_X4_readNumber ⟨Nat.le_of_ble_eq_true rfl, Nat.le_of_ble_eq_true rfl⟩ h_rd g30 (ci := 4) rfl rfl (Nat.le_of_ble_eq_true rfl) ⟨Nat.zero_le _, Nat.zero_le _⟩ dX4_readThing_101 (fun r34 M33 H locs hp32 hP hS => ?_)
      obtain ⟨v0_35, rfl, g36, g37, g38, fr39⟩ := hp32
      refine lv_if_eq (tgt := 220) hx hb dX4_readThing_104 (by decide) (fun c_104 => ?_) (fun c_104 => ?_)
      · skip
        have g40 : M33 ta = .inr (9, tapeX ad ta ln en bf (nX en bf (nX en bf x)) v0_35) := by refine g36.trans ?_; simp only [pk0_t c_104]
        have g41 : M33 rd = .inr (4, [.ref (ad ta), .ref (ad h), .int (fkN en bf (nX en bf (nX en bf x)))]) := by refine g37.trans ?_; simp only [pk0_t c_104]
        have g42 : M33 (h + 6) = .inl (cI, 84, .inl (tset 84 (tset 84 (tset 84 tf ((hv 7) * 7 + 0) z) ((hv 7) * 7 + 6) 0) ((hv 7) * 7 + 1) (nmX en bf (nX en bf x)))) := by refine g38.trans ?_; simp only [pk0_t c_104]
        refine lv_iconst (v := 0) hx hb dX4_readThing_220 (by decide) ?_
        refine lv_istore_n (lv' := [(3, .int 0), (2, .int (hv 7)), (0, .ref (ad rd)), (1, .int z)]) hx hb dX4_readThing_221 rfl hl (by decide) rfl (fun ls hl => ?_)
        refine lv_aload_n hx hb dX4_readThing_222 rfl (lv_at hl 2 rfl) ?_
        refine q_get (v := .ref (ad h)) (fs := [.ref (ad ta), .ref (ad h), .int (fkN en bf (nX en bf (nX en bf x)))]) X hK hP fX4_readThing_15 h_rd g41 rfl dX4_readThing_223 ?_
        refine lv_dup hx hb dX4_readThing_226 rfl ?_
        refine q_get (v := .int (hv 7)) (fs := hallF ad h hv) X hK hP fX4_readThing_133 h_h ((fr39 h (by omega) (by omega) (by omega)).trans ((fr23 h (by omega) (by omega) (by omega)).trans ((fr15 h (by omega)).trans ((fr10 h (by omega)).trans ((fr5 h (by omega)).trans m_h))))) rfl dX4_readThing_227 ?_
        refine lv_iconst (v := 1) hx hb dX4_readThing_230 (by decide) ?_
        refine lv_iadd hx hb dX4_readThing_231 ?_
        refine q_put (fs := hallF ad h hv) (fs' := hallF ad h (upd hv 7 ((hv 7) + 1))) X hK hI hP hS fX4_readThing_133 fw_0_7 h_h ((fr39 h (by omega) (by omega) (by omega)).trans ((fr23 h (by omega) (by omega) (by omega)).trans ((fr15 h (by omega)).trans ((fr10 h (by omega)).trans ((fr5 h (by omega)).trans m_h))))) rfl rfl (Nat.le_of_ble_eq_true rfl) rfl dX4_readThing_232 (fun H locs hP hS => ?_)
        refine lv_iload_n hx hb dX4_readThing_235 rfl (lv_at hl 0 rfl) ?_
        exact q_wzret X hr hlocks hP hS (rfl) ⟨v0_35, (by rw [s_X4_readThing, if_pos c_11, if_neg c_70, if_pos c_104]), (by rw [s_X4_readThing_0_4, if_pos c_11, if_neg c_70, if_pos c_104]; exact ((va_up_ne M33 (.inr (0, hallF ad h (upd hv 7 ((hv 7) + 1)))) (show ta ≠ h by omega)).trans g40)), (by rw [s_X4_readThing_1_2, if_pos c_11, if_neg c_70, if_pos c_104]; exact ((va_up_ne M33 (.inr (0, hallF ad h (upd hv 7 ((hv 7) + 1)))) (show rd ≠ h by omega)).trans g41)), (by rw [s_X4_readThing_2_1, if_pos c_11, if_neg c_70, if_pos c_104]; exact (va_up_self M33 h (.inr (0, hallF ad h (upd hv 7 ((hv 7) + 1)))))), (by rw [s_X4_readThing_3_f, if_pos c_11, if_neg c_70, if_pos c_104]; exact ((va_up_ne M33 (.inr (0, hallF ad h (upd hv 7 ((hv 7) + 1)))) (show h + 6 ≠ h by omega)).trans g42)), (fun q n0 n1 n2 n3 => ((va_up_ne _ _ n2).trans ((fr39 q n0 n1 n3).trans ((fr23 q n0 n1 n3).trans ((fr15 q n3).trans ((fr10 q n3).trans (fr5 q n0)))))))⟩ dX4_readThing_236
      · skip
        have g45 : M33 ta = .inr (9, tapeX ad ta ln en bf (nX en bf (nX en bf (nX en bf x))) v0_35) := by refine g36.trans ?_; simp only [pk0_f c_104]
        have g46 : M33 rd = .inr (4, [.ref (ad ta), .ref (ad h), .int ft]) := by refine g37.trans ?_; simp only [pk0_f c_104]
        have g47 : M33 (h + 6) = .inl (cI, 84, .inl (tset 84 (tset 84 (tset 84 (tset 84 tf ((hv 7) * 7 + 0) z) ((hv 7) * 7 + 6) 0) ((hv 7) * 7 + 1) (nmX en bf (nX en bf x))) ((hv 7) * 7 + 2) (nmX en bf (nX en bf (nX en bf x))))) := by refine g38.trans ?_; simp only [pk0_f c_104]
        refine lv_aload_n hx hb dX4_readThing_107 rfl (lv_at hl 1 rfl) ?_
        refine lv_aload_n hx hb dX4_readThing_108 rfl (lv_at hl 1 rfl) ?_
        refine q_get (v := .ref (ad h)) (fs := [.ref (ad ta), .ref (ad h), .int ft]) X hK hP fX4_readThing_15 h_rd g46 rfl dX4_readThing_109 ?_
        refine q_get (v := .ref (ad (h + 5))) (fs := hallF ad h hv) X hK hP fX4_readThing_136 h_h ((fr39 h (by omega) (by omega) (by omega)).trans ((fr23 h (by omega) (by omega) (by omega)).trans ((fr15 h (by omega)).trans ((fr10 h (by omega)).trans ((fr5 h (by omega)).trans m_h))))) rfl dX4_readThing_112 ?_
        refine lv_iload_n hx hb dX4_readThing_115 rfl (lv_at hl 0 rfl) ?_
        refine lv_iconst (v := 3) hx hb dX4_readThing_116 (by decide) ?_
        refine lv_iconst (v := 0) hx hb dX4_readThing_117 (by decide) ?_
        refine lv_bipush (v := 20) hx hb dX4_readThing_118 (by decide) ?_
        refine q_wrVi (As := [.ref (ad (h + 5)), .int (hv 7), .int 3, .int 0, .int 20]) (rest := []) (c_X4_readNumber l D cB cI cJ ad n M33 hI rd ta h en (nX en bf (nX en bf (nX en bf x))) ln v0_35 ft bf 84 7 (tset 84 (tset 84 (tset 84 (tset 84 tf ((hv 7) * 7 + 0) z) ((hv 7) * 7 + 6) 0) ((hv 7) * 7 + 1) (nmX en bf (nX en bf x))) ((hv 7) * 7 + 2) (nmX en bf (nX en bf (nX en bf x)))) (h + 5) (hv 7) 3 0 20 h_ta h_ta_1 h_rd h_h_5 h_h_6 g45 ((fr39 (ta + 1) (by omega) (by omega) (by omega)).trans ((fr23 (ta + 1) (by omega) (by omega) (by omega)).trans ((fr15 (ta + 1) (by omega)).trans ((fr10 (ta + 1) (by omega)).trans ((fr5 (ta + 1) (by omega)).trans m_ta_1))))) g46 ((fr39 (h + 5) (by omega) (by omega) (by omega)).trans ((fr23 (h + 5) (by omega) (by omega) (by omega)).trans ((fr15 (h + 5) (by omega)).trans ((fr10 (h + 5) (by omega)).trans ((fr5 (h + 5) (by omega)).trans m_h_5))))) g47 (by first | (apply nX_le <;> (repeat' (first | assumption | apply nX_le))) | assumption | omega | (repeat' (first | assumption | apply nX_le | exact isN_k (by assumption) | exact isT_k (by assumption))) | exact vp_in_nI (by omega) (by decide)) hen srt (by decide) (by first | (apply nX_le <;> (repeat' (first | assumption | apply nX_le))) | assumption | omega | (repeat' (first | assumption | apply nX_le | exact isN_k (by assumption) | exact isT_k (by assumption))) | exact vp_in_nI (by omega) (by decide)) (by first | (apply nX_le <;> (repeat' (first | assumption | apply nX_le))) | assumption | omega | (repeat' (first | assumption | apply nX_le | exact isN_k (by assumption) | exact isT_k (by assumption))) | exact vp_in_nI (by omega) (by decide))) X hK hP hS hl.1 rfl gX4_readThing_X4_readNumber yd_X4_readNumber ⟨Nat.le_of_ble_eq_true rfl, Nat.le_of_ble_eq_true rfl⟩ h_rd g46 (ci := 4) rfl rfl (Nat.le_of_ble_eq_true rfl) ⟨Nat.zero_le _, Nat.zero_le _⟩ dX4_readThing_120 (fun r50 M49 H locs hp48 hP hS => ?_)
        obtain ⟨v0_51, rfl, g52, g53, g54, fr55⟩ := hp48
        refine lv_if_eq (tgt := 220) hx hb dX4_readThing_123 (by decide) (fun c_123 => ?_) (fun c_123 => ?_)
        · skip
          have g56 : M49 ta = .inr (9, tapeX ad ta ln en bf (nX en bf (nX en bf (nX en bf x))) v0_51) := by refine g52.trans ?_; simp only [pk0_t c_123]
          have g57 : M49 rd = .inr (4, [.ref (ad ta), .ref (ad h), .int (fkN en bf (nX en bf (nX en bf (nX en bf x))))]) := by refine g53.trans ?_; simp only [pk0_t c_123]
          have g58 : M49 (h + 6) = .inl (cI, 84, .inl (tset 84 (tset 84 (tset 84 (tset 84 tf ((hv 7) * 7 + 0) z) ((hv 7) * 7 + 6) 0) ((hv 7) * 7 + 1) (nmX en bf (nX en bf x))) ((hv 7) * 7 + 2) (nmX en bf (nX en bf (nX en bf x))))) := by refine g54.trans ?_; simp only [pk0_t c_123]
          refine lv_iconst (v := 0) hx hb dX4_readThing_220 (by decide) ?_
          refine lv_istore_n (lv' := [(3, .int 0), (2, .int (hv 7)), (0, .ref (ad rd)), (1, .int z)]) hx hb dX4_readThing_221 rfl hl (by decide) rfl (fun ls hl => ?_)
          refine lv_aload_n hx hb dX4_readThing_222 rfl (lv_at hl 2 rfl) ?_
          refine q_get (v := .ref (ad h)) (fs := [.ref (ad ta), .ref (ad h), .int (fkN en bf (nX en bf (nX en bf (nX en bf x))))]) X hK hP fX4_readThing_15 h_rd g57 rfl dX4_readThing_223 ?_
          refine lv_dup hx hb dX4_readThing_226 rfl ?_
          refine q_get (v := .int (hv 7)) (fs := hallF ad h hv) X hK hP fX4_readThing_133 h_h ((fr55 h (by omega) (by omega) (by omega)).trans ((fr39 h (by omega) (by omega) (by omega)).trans ((fr23 h (by omega) (by omega) (by omega)).trans ((fr15 h (by omega)).trans ((fr10 h (by omega)).trans ((fr5 h (by omega)).trans m_h)))))) rfl dX4_readThing_227 ?_
          refine lv_iconst (v := 1) hx hb dX4_readThing_230 (by decide) ?_
          refine lv_iadd hx hb dX4_readThing_231 ?_
          refine q_put (fs := hallF ad h hv) (fs' := hallF ad h (upd hv 7 ((hv 7) + 1))) X hK hI hP hS fX4_readThing_133 fw_0_7 h_h ((fr55 h (by omega) (by omega) (by omega)).trans ((fr39 h (by omega) (by omega) (by omega)).trans ((fr23 h (by omega) (by omega) (by omega)).trans ((fr15 h (by omega)).trans ((fr10 h (by omega)).trans ((fr5 h (by omega)).trans m_h)))))) rfl rfl (Nat.le_of_ble_eq_true rfl) rfl dX4_readThing_232 (fun H locs hP hS => ?_)
          refine lv_iload_n hx hb dX4_readThing_235 rfl (lv_at hl 0 rfl) ?_
          exact q_wzret X hr hlocks hP hS (rfl) ⟨v0_51, (by rw [s_X4_readThing, if_pos c_11, if_neg c_70, if_neg c_104, if_pos c_123]), (by rw [s_X4_readThing_0_4, if_pos c_11, if_neg c_70, if_neg c_104, if_pos c_123]; exact ((va_up_ne M49 (.inr (0, hallF ad h (upd hv 7 ((hv 7) + 1)))) (show ta ≠ h by omega)).trans g56)), (by rw [s_X4_readThing_1_2, if_pos c_11, if_neg c_70, if_neg c_104, if_pos c_123]; exact ((va_up_ne M49 (.inr (0, hallF ad h (upd hv 7 ((hv 7) + 1)))) (show rd ≠ h by omega)).trans g57)), (by rw [s_X4_readThing_2_1, if_pos c_11, if_neg c_70, if_neg c_104, if_pos c_123]; exact (va_up_self M49 h (.inr (0, hallF ad h (upd hv 7 ((hv 7) + 1)))))), (by rw [s_X4_readThing_3_f, if_pos c_11, if_neg c_70, if_neg c_104, if_pos c_123]; exact ((va_up_ne M49 (.inr (0, hallF ad h (upd hv 7 ((hv 7) + 1)))) (show h + 6 ≠ h by omega)).trans g58)), (fun q n0 n1 n2 n3 => ((va_up_ne _ _ n2).trans ((fr55 q n0 n1 n3).trans ((fr39 q n0 n1 n3).trans ((fr23 q n0 n1 n3).trans ((fr15 q n3).trans ((fr10 q n3).trans (fr5 q n0))))))))⟩ dX4_readThing_236
        · skip
          have g61 : M49 ta = .inr (9, tapeX ad ta ln en bf (nX en bf (nX en bf (nX en bf (nX en bf x)))) v0_51) := by refine g52.trans ?_; simp only [pk0_f c_123]
          have g62 : M49 rd = .inr (4, [.ref (ad ta), .ref (ad h), .int ft]) := by refine g53.trans ?_; simp only [pk0_f c_123]
          have g63 : M49 (h + 6) = .inl (cI, 84, .inl (tset 84 (tset 84 (tset 84 (tset 84 (tset 84 tf ((hv 7) * 7 + 0) z) ((hv 7) * 7 + 6) 0) ((hv 7) * 7 + 1) (nmX en bf (nX en bf x))) ((hv 7) * 7 + 2) (nmX en bf (nX en bf (nX en bf x)))) ((hv 7) * 7 + 3) (nmX en bf (nX en bf (nX en bf (nX en bf x)))))) := by refine g54.trans ?_; simp only [pk0_f c_123]
          refine lv_aload_n hx hb dX4_readThing_126 rfl (lv_at hl 1 rfl) ?_
          refine lv_aload_n hx hb dX4_readThing_127 rfl (lv_at hl 1 rfl) ?_
          refine q_get (v := .ref (ad h)) (fs := [.ref (ad ta), .ref (ad h), .int ft]) X hK hP fX4_readThing_15 h_rd g62 rfl dX4_readThing_128 ?_
          refine q_get (v := .ref (ad (h + 5))) (fs := hallF ad h hv) X hK hP fX4_readThing_136 h_h ((fr55 h (by omega) (by omega) (by omega)).trans ((fr39 h (by omega) (by omega) (by omega)).trans ((fr23 h (by omega) (by omega) (by omega)).trans ((fr15 h (by omega)).trans ((fr10 h (by omega)).trans ((fr5 h (by omega)).trans m_h)))))) rfl dX4_readThing_131 ?_
          refine lv_iload_n hx hb dX4_readThing_134 rfl (lv_at hl 0 rfl) ?_
          refine lv_iconst (v := 4) hx hb dX4_readThing_135 (by decide) ?_
          refine lv_iconst (v := 0) hx hb dX4_readThing_136 (by decide) ?_
          refine lv_sipush (v := 999) hx hb dX4_readThing_137 (by decide) ?_
          refine q_wrVi (As := [.ref (ad (h + 5)), .int (hv 7), .int 4, .int 0, .int 999]) (rest := []) (c_X4_readNumber l D cB cI cJ ad n M49 hI rd ta h en (nX en bf (nX en bf (nX en bf (nX en bf x)))) ln v0_51 ft bf 84 7 (tset 84 (tset 84 (tset 84 (tset 84 (tset 84 tf ((hv 7) * 7 + 0) z) ((hv 7) * 7 + 6) 0) ((hv 7) * 7 + 1) (nmX en bf (nX en bf x))) ((hv 7) * 7 + 2) (nmX en bf (nX en bf (nX en bf x)))) ((hv 7) * 7 + 3) (nmX en bf (nX en bf (nX en bf (nX en bf x))))) (h + 5) (hv 7) 4 0 999 h_ta h_ta_1 h_rd h_h_5 h_h_6 g61 ((fr55 (ta + 1) (by omega) (by omega) (by omega)).trans ((fr39 (ta + 1) (by omega) (by omega) (by omega)).trans ((fr23 (ta + 1) (by omega) (by omega) (by omega)).trans ((fr15 (ta + 1) (by omega)).trans ((fr10 (ta + 1) (by omega)).trans ((fr5 (ta + 1) (by omega)).trans m_ta_1)))))) g62 ((fr55 (h + 5) (by omega) (by omega) (by omega)).trans ((fr39 (h + 5) (by omega) (by omega) (by omega)).trans ((fr23 (h + 5) (by omega) (by omega) (by omega)).trans ((fr15 (h + 5) (by omega)).trans ((fr10 (h + 5) (by omega)).trans ((fr5 (h + 5) (by omega)).trans m_h_5)))))) g63 (by first | (apply nX_le <;> (repeat' (first | assumption | apply nX_le))) | assumption | omega | (repeat' (first | assumption | apply nX_le | exact isN_k (by assumption) | exact isT_k (by assumption))) | exact vp_in_nI (by omega) (by decide)) hen srt (by decide) (by first | (apply nX_le <;> (repeat' (first | assumption | apply nX_le))) | assumption | omega | (repeat' (first | assumption | apply nX_le | exact isN_k (by assumption) | exact isT_k (by assumption))) | exact vp_in_nI (by omega) (by decide)) (by first | (apply nX_le <;> (repeat' (first | assumption | apply nX_le))) | assumption | omega | (repeat' (first | assumption | apply nX_le | exact isN_k (by assumption) | exact isT_k (by assumption))) | exact vp_in_nI (by omega) (by decide))) X hK hP hS hl.1 rfl gX4_readThing_X4_readNumber yd_X4_readNumber ⟨Nat.le_of_ble_eq_true rfl, Nat.le_of_ble_eq_true rfl⟩ h_rd g62 (ci := 4) rfl rfl (Nat.le_of_ble_eq_true rfl) ⟨Nat.zero_le _, Nat.zero_le _⟩ dX4_readThing_140 (fun r66 M65 H locs hp64 hP hS => ?_)
          obtain ⟨v0_67, rfl, g68, g69, g70, fr71⟩ := hp64
          refine lv_if_eq (tgt := 220) hx hb dX4_readThing_143 (by decide) (fun c_143 => ?_) (fun c_143 => ?_)
          · skip
            have g72 : M65 ta = .inr (9, tapeX ad ta ln en bf (nX en bf (nX en bf (nX en bf (nX en bf x)))) v0_67) := by refine g68.trans ?_; simp only [pk0_t c_143]
            have g73 : M65 rd = .inr (4, [.ref (ad ta), .ref (ad h), .int (fkN en bf (nX en bf (nX en bf (nX en bf (nX en bf x)))))]) := by refine g69.trans ?_; simp only [pk0_t c_143]
            have g74 : M65 (h + 6) = .inl (cI, 84, .inl (tset 84 (tset 84 (tset 84 (tset 84 (tset 84 tf ((hv 7) * 7 + 0) z) ((hv 7) * 7 + 6) 0) ((hv 7) * 7 + 1) (nmX en bf (nX en bf x))) ((hv 7) * 7 + 2) (nmX en bf (nX en bf (nX en bf x)))) ((hv 7) * 7 + 3) (nmX en bf (nX en bf (nX en bf (nX en bf x)))))) := by refine g70.trans ?_; simp only [pk0_t c_143]
            refine lv_iconst (v := 0) hx hb dX4_readThing_220 (by decide) ?_
            refine lv_istore_n (lv' := [(3, .int 0), (2, .int (hv 7)), (0, .ref (ad rd)), (1, .int z)]) hx hb dX4_readThing_221 rfl hl (by decide) rfl (fun ls hl => ?_)
            refine lv_aload_n hx hb dX4_readThing_222 rfl (lv_at hl 2 rfl) ?_
            refine q_get (v := .ref (ad h)) (fs := [.ref (ad ta), .ref (ad h), .int (fkN en bf (nX en bf (nX en bf (nX en bf (nX en bf x)))))]) X hK hP fX4_readThing_15 h_rd g73 rfl dX4_readThing_223 ?_
            refine lv_dup hx hb dX4_readThing_226 rfl ?_
            refine q_get (v := .int (hv 7)) (fs := hallF ad h hv) X hK hP fX4_readThing_133 h_h ((fr71 h (by omega) (by omega) (by omega)).trans ((fr55 h (by omega) (by omega) (by omega)).trans ((fr39 h (by omega) (by omega) (by omega)).trans ((fr23 h (by omega) (by omega) (by omega)).trans ((fr15 h (by omega)).trans ((fr10 h (by omega)).trans ((fr5 h (by omega)).trans m_h))))))) rfl dX4_readThing_227 ?_
            refine lv_iconst (v := 1) hx hb dX4_readThing_230 (by decide) ?_
            refine lv_iadd hx hb dX4_readThing_231 ?_
            refine q_put (fs := hallF ad h hv) (fs' := hallF ad h (upd hv 7 ((hv 7) + 1))) X hK hI hP hS fX4_readThing_133 fw_0_7 h_h ((fr71 h (by omega) (by omega) (by omega)).trans ((fr55 h (by omega) (by omega) (by omega)).trans ((fr39 h (by omega) (by omega) (by omega)).trans ((fr23 h (by omega) (by omega) (by omega)).trans ((fr15 h (by omega)).trans ((fr10 h (by omega)).trans ((fr5 h (by omega)).trans m_h))))))) rfl rfl (Nat.le_of_ble_eq_true rfl) rfl dX4_readThing_232 (fun H locs hP hS => ?_)
            refine lv_iload_n hx hb dX4_readThing_235 rfl (lv_at hl 0 rfl) ?_
            exact q_wzret X hr hlocks hP hS (rfl) ⟨v0_67, (by rw [s_X4_readThing, if_pos c_11, if_neg c_70, if_neg c_104, if_neg c_123, if_pos c_143]), (by rw [s_X4_readThing_0_4, if_pos c_11, if_neg c_70, if_neg c_104, if_neg c_123, if_pos c_143]; exact ((va_up_ne M65 (.inr (0, hallF ad h (upd hv 7 ((hv 7) + 1)))) (show ta ≠ h by omega)).trans g72)), (by rw [s_X4_readThing_1_2, if_pos c_11, if_neg c_70, if_neg c_104, if_neg c_123, if_pos c_143]; exact ((va_up_ne M65 (.inr (0, hallF ad h (upd hv 7 ((hv 7) + 1)))) (show rd ≠ h by omega)).trans g73)), (by rw [s_X4_readThing_2_1, if_pos c_11, if_neg c_70, if_neg c_104, if_neg c_123, if_pos c_143]; exact (va_up_self M65 h (.inr (0, hallF ad h (upd hv 7 ((hv 7) + 1)))))), (by rw [s_X4_readThing_3_f, if_pos c_11, if_neg c_70, if_neg c_104, if_neg c_123, if_pos c_143]; exact ((va_up_ne M65 (.inr (0, hallF ad h (upd hv 7 ((hv 7) + 1)))) (show h + 6 ≠ h by omega)).trans g74)), (fun q n0 n1 n2 n3 => ((va_up_ne _ _ n2).trans ((fr71 q n0 n1 n3).trans ((fr55 q n0 n1 n3).trans ((fr39 q n0 n1 n3).trans ((fr23 q n0 n1 n3).trans ((fr15 q n3).trans ((fr10 q n3).trans (fr5 q n0)))))))))⟩ dX4_readThing_236
          · skip
            have g77 : M65 ta = .inr (9, tapeX ad ta ln en bf (nX en bf (nX en bf (nX en bf (nX en bf (nX en bf x))))) v0_67) := by refine g68.trans ?_; simp only [pk0_f c_143]
            have g78 : M65 rd = .inr (4, [.ref (ad ta), .ref (ad h), .int ft]) := by refine g69.trans ?_; simp only [pk0_f c_143]
            have g79 : M65 (h + 6) = .inl (cI, 84, .inl (tset 84 (tset 84 (tset 84 (tset 84 (tset 84 (tset 84 tf ((hv 7) * 7 + 0) z) ((hv 7) * 7 + 6) 0) ((hv 7) * 7 + 1) (nmX en bf (nX en bf x))) ((hv 7) * 7 + 2) (nmX en bf (nX en bf (nX en bf x)))) ((hv 7) * 7 + 3) (nmX en bf (nX en bf (nX en bf (nX en bf x))))) ((hv 7) * 7 + 4) (nmX en bf (nX en bf (nX en bf (nX en bf (nX en bf x))))))) := by refine g70.trans ?_; simp only [pk0_f c_143]
            refine lv_aload_n hx hb dX4_readThing_146 rfl (lv_at hl 1 rfl) ?_
            refine lv_aload_n hx hb dX4_readThing_147 rfl (lv_at hl 1 rfl) ?_
            refine q_get (v := .ref (ad h)) (fs := [.ref (ad ta), .ref (ad h), .int ft]) X hK hP fX4_readThing_15 h_rd g78 rfl dX4_readThing_148 ?_
            refine q_get (v := .int (hv 6)) (fs := hallF ad h hv) X hK hP fX4_readThing_117 h_h ((fr71 h (by omega) (by omega) (by omega)).trans ((fr55 h (by omega) (by omega) (by omega)).trans ((fr39 h (by omega) (by omega) (by omega)).trans ((fr23 h (by omega) (by omega) (by omega)).trans ((fr15 h (by omega)).trans ((fr10 h (by omega)).trans ((fr5 h (by omega)).trans m_h))))))) rfl dX4_readThing_151 ?_
            refine q_wrVi (As := [.int (hv 6)]) (rest := []) (c_X4_isTold l D cB cI cJ ad n M65 hI rd ta h en (nX en bf (nX en bf (nX en bf (nX en bf (nX en bf x))))) ln v0_67 ft bf (hv 6) h_ta h_ta_1 h_rd g77 ((fr71 (ta + 1) (by omega) (by omega) (by omega)).trans ((fr55 (ta + 1) (by omega) (by omega) (by omega)).trans ((fr39 (ta + 1) (by omega) (by omega) (by omega)).trans ((fr23 (ta + 1) (by omega) (by omega) (by omega)).trans ((fr15 (ta + 1) (by omega)).trans ((fr10 (ta + 1) (by omega)).trans ((fr5 (ta + 1) (by omega)).trans m_ta_1))))))) g78 (by first | (apply nX_le <;> (repeat' (first | assumption | apply nX_le))) | assumption | omega | (repeat' (first | assumption | apply nX_le | exact isN_k (by assumption) | exact isT_k (by assumption))) | exact vp_in_nI (by omega) (by decide)) hen srt) X hK hP hS hl.1 rfl gX4_readThing_X4_isTold yd_X4_isTold ⟨Nat.le_of_ble_eq_true rfl, Nat.le_of_ble_eq_true rfl⟩ h_rd g78 (ci := 4) rfl rfl (Nat.le_of_ble_eq_true rfl) ⟨Nat.zero_le _, Nat.zero_le _⟩ dX4_readThing_154 (fun r82 M81 H locs hp80 hP hS => ?_)
            obtain ⟨rfl, g83, fr84⟩ := hp80
            refine lv_if_eq (tgt := 220) hx hb dX4_readThing_157 (by decide) (fun c_157 => ?_) (fun c_157 => ?_)
            · skip
              have g85 : M81 rd = .inr (4, [.ref (ad ta), .ref (ad h), .int (fkT en (nX en bf (nX en bf (nX en bf (nX en bf (nX en bf x))))) bf)]) := by refine g83.trans ?_; simp only [pk0_t c_157]
              refine lv_iconst (v := 0) hx hb dX4_readThing_220 (by decide) ?_
              refine lv_istore_n (lv' := [(3, .int 0), (2, .int (hv 7)), (0, .ref (ad rd)), (1, .int z)]) hx hb dX4_readThing_221 rfl hl (by decide) rfl (fun ls hl => ?_)
              refine lv_aload_n hx hb dX4_readThing_222 rfl (lv_at hl 2 rfl) ?_
              refine q_get (v := .ref (ad h)) (fs := [.ref (ad ta), .ref (ad h), .int (fkT en (nX en bf (nX en bf (nX en bf (nX en bf (nX en bf x))))) bf)]) X hK hP fX4_readThing_15 h_rd g85 rfl dX4_readThing_223 ?_
              refine lv_dup hx hb dX4_readThing_226 rfl ?_
              refine q_get (v := .int (hv 7)) (fs := hallF ad h hv) X hK hP fX4_readThing_133 h_h ((fr84 h (by omega)).trans ((fr71 h (by omega) (by omega) (by omega)).trans ((fr55 h (by omega) (by omega) (by omega)).trans ((fr39 h (by omega) (by omega) (by omega)).trans ((fr23 h (by omega) (by omega) (by omega)).trans ((fr15 h (by omega)).trans ((fr10 h (by omega)).trans ((fr5 h (by omega)).trans m_h)))))))) rfl dX4_readThing_227 ?_
              refine lv_iconst (v := 1) hx hb dX4_readThing_230 (by decide) ?_
              refine lv_iadd hx hb dX4_readThing_231 ?_
              refine q_put (fs := hallF ad h hv) (fs' := hallF ad h (upd hv 7 ((hv 7) + 1))) X hK hI hP hS fX4_readThing_133 fw_0_7 h_h ((fr84 h (by omega)).trans ((fr71 h (by omega) (by omega) (by omega)).trans ((fr55 h (by omega) (by omega) (by omega)).trans ((fr39 h (by omega) (by omega) (by omega)).trans ((fr23 h (by omega) (by omega) (by omega)).trans ((fr15 h (by omega)).trans ((fr10 h (by omega)).trans ((fr5 h (by omega)).trans m_h)))))))) rfl rfl (Nat.le_of_ble_eq_true rfl) rfl dX4_readThing_232 (fun H locs hP hS => ?_)
              refine lv_iload_n hx hb dX4_readThing_235 rfl (lv_at hl 0 rfl) ?_
              exact q_wzret X hr hlocks hP hS (rfl) ⟨v0_67, (by rw [s_X4_readThing, if_pos c_11, if_neg c_70, if_neg c_104, if_neg c_123, if_neg c_143, if_pos c_157]), (by rw [s_X4_readThing_0_4, if_pos c_11, if_neg c_70, if_neg c_104, if_neg c_123, if_neg c_143, if_pos c_157]; exact ((va_up_ne M81 (.inr (0, hallF ad h (upd hv 7 ((hv 7) + 1)))) (show ta ≠ h by omega)).trans ((fr84 ta (by omega)).trans g77))), (by rw [s_X4_readThing_1_2, if_pos c_11, if_neg c_70, if_neg c_104, if_neg c_123, if_neg c_143, if_pos c_157]; exact ((va_up_ne M81 (.inr (0, hallF ad h (upd hv 7 ((hv 7) + 1)))) (show rd ≠ h by omega)).trans g85)), (by rw [s_X4_readThing_2_1, if_pos c_11, if_neg c_70, if_neg c_104, if_neg c_123, if_neg c_143, if_pos c_157]; exact (va_up_self M81 h (.inr (0, hallF ad h (upd hv 7 ((hv 7) + 1)))))), (by rw [s_X4_readThing_3_f, if_pos c_11, if_neg c_70, if_neg c_104, if_neg c_123, if_neg c_143, if_pos c_157]; exact ((va_up_ne M81 (.inr (0, hallF ad h (upd hv 7 ((hv 7) + 1)))) (show h + 6 ≠ h by omega)).trans ((fr84 (h + 6) (by omega)).trans g79))), (fun q n0 n1 n2 n3 => ((va_up_ne _ _ n2).trans ((fr84 q n1).trans ((fr71 q n0 n1 n3).trans ((fr55 q n0 n1 n3).trans ((fr39 q n0 n1 n3).trans ((fr23 q n0 n1 n3).trans ((fr15 q n3).trans ((fr10 q n3).trans (fr5 q n0))))))))))⟩ dX4_readThing_236
            · skip
              have g88 : M81 rd = .inr (4, [.ref (ad ta), .ref (ad h), .int ft]) := by refine g83.trans ?_; simp only [pk0_f c_157]
              refine lv_aload_n hx hb dX4_readThing_160 rfl (lv_at hl 1 rfl) ?_
              refine lv_iload_n hx hb dX4_readThing_161 rfl (lv_at hl 0 rfl) ?_
              refine lv_aload_n hx hb dX4_readThing_162 rfl (lv_at hl 1 rfl) ?_
              refine q_get (v := .ref (ad ta)) (fs := [.ref (ad ta), .ref (ad h), .int ft]) X hK hP fX4_readThing_9 h_rd g88 rfl dX4_readThing_163 ?_
              refine q_get (v := .int (uX en bf (nX en bf (nX en bf (nX en bf (nX en bf (nX en bf x))))) v0_67)) (fs := tapeX ad ta ln en bf (nX en bf (nX en bf (nX en bf (nX en bf (nX en bf x))))) v0_67) X hK hP fX4_readThing_93 h_ta ((fr84 ta (by omega)).trans g77) rfl dX4_readThing_166 ?_
              refine lv_topi (fun z89 e90 => ?_)
              obtain rfl : z89 = (nmX en bf (nX en bf (nX en bf (nX en bf (nX en bf (nX en bf x)))))) := e90.trans (uX_num (isT_k c_157) : (uX en bf (nX en bf (nX en bf (nX en bf (nX en bf (nX en bf x))))) v0_67) = (nmX en bf (nX en bf (nX en bf (nX en bf (nX en bf (nX en bf x)))))))
              refine q_wrVi (As := [.int (hv 7), .int (nmX en bf (nX en bf (nX en bf (nX en bf (nX en bf (nX en bf x))))))]) (rest := []) (c_X4_isRoomFor l D cB cI cJ ad n M81 hI rd ta h en (nX en bf (nX en bf (nX en bf (nX en bf (nX en bf x))))) ln v0_67 ft bf hv nt cf (tset 84 (tset 84 (tset 84 (tset 84 (tset 84 (tset 84 tf ((hv 7) * 7 + 0) z) ((hv 7) * 7 + 6) 0) ((hv 7) * 7 + 1) (nmX en bf (nX en bf x))) ((hv 7) * 7 + 2) (nmX en bf (nX en bf (nX en bf x)))) ((hv 7) * 7 + 3) (nmX en bf (nX en bf (nX en bf (nX en bf x))))) ((hv 7) * 7 + 4) (nmX en bf (nX en bf (nX en bf (nX en bf (nX en bf x)))))) (hv 7) (nmX en bf (nX en bf (nX en bf (nX en bf (nX en bf (nX en bf x)))))) h_ta h_ta_1 h_rd h_h h_h_3 h_h_4 h_h_5 h_h_6 ((fr84 ta (by omega)).trans g77) ((fr84 (ta + 1) (by omega)).trans ((fr71 (ta + 1) (by omega) (by omega) (by omega)).trans ((fr55 (ta + 1) (by omega) (by omega) (by omega)).trans ((fr39 (ta + 1) (by omega) (by omega) (by omega)).trans ((fr23 (ta + 1) (by omega) (by omega) (by omega)).trans ((fr15 (ta + 1) (by omega)).trans ((fr10 (ta + 1) (by omega)).trans ((fr5 (ta + 1) (by omega)).trans m_ta_1)))))))) g88 ((fr84 h (by omega)).trans ((fr71 h (by omega) (by omega) (by omega)).trans ((fr55 h (by omega) (by omega) (by omega)).trans ((fr39 h (by omega) (by omega) (by omega)).trans ((fr23 h (by omega) (by omega) (by omega)).trans ((fr15 h (by omega)).trans ((fr10 h (by omega)).trans ((fr5 h (by omega)).trans m_h)))))))) ((fr84 (h + 3) (by omega)).trans ((fr71 (h + 3) (by omega) (by omega) (by omega)).trans ((fr55 (h + 3) (by omega) (by omega) (by omega)).trans ((fr39 (h + 3) (by omega) (by omega) (by omega)).trans ((fr23 (h + 3) (by omega) (by omega) (by omega)).trans ((fr15 (h + 3) (by omega)).trans ((fr10 (h + 3) (by omega)).trans ((fr5 (h + 3) (by omega)).trans m_h_3)))))))) ((fr84 (h + 4) (by omega)).trans ((fr71 (h + 4) (by omega) (by omega) (by omega)).trans ((fr55 (h + 4) (by omega) (by omega) (by omega)).trans ((fr39 (h + 4) (by omega) (by omega) (by omega)).trans ((fr23 (h + 4) (by omega) (by omega) (by omega)).trans ((fr15 (h + 4) (by omega)).trans ((fr10 (h + 4) (by omega)).trans ((fr5 (h + 4) (by omega)).trans m_h_4)))))))) ((fr84 (h + 5) (by omega)).trans ((fr71 (h + 5) (by omega) (by omega) (by omega)).trans ((fr55 (h + 5) (by omega) (by omega) (by omega)).trans ((fr39 (h + 5) (by omega) (by omega) (by omega)).trans ((fr23 (h + 5) (by omega) (by omega) (by omega)).trans ((fr15 (h + 5) (by omega)).trans ((fr10 (h + 5) (by omega)).trans ((fr5 (h + 5) (by omega)).trans m_h_5)))))))) ((fr84 (h + 6) (by omega)).trans g79) (by first | (apply nX_le <;> (repeat' (first | assumption | apply nX_le))) | assumption | omega | (repeat' (first | assumption | apply nX_le | exact isN_k (by assumption) | exact isT_k (by assumption))) | exact vp_in_nI (by omega) (by decide)) hen srt srh sth (by first | (apply nX_le <;> (repeat' (first | assumption | apply nX_le))) | assumption | omega | (repeat' (first | assumption | apply nX_le | exact isN_k (by assumption) | exact isT_k (by assumption))) | exact vp_in_nI (by omega) (by decide)) hnt) X hK hP hS hl.1 rfl gX4_readThing_X4_isRoomFor yd_X4_isRoomFor ⟨Nat.le_of_ble_eq_true rfl, Nat.le_of_ble_eq_true rfl⟩ h_rd g88 (ci := 4) rfl rfl (Nat.le_of_ble_eq_true rfl) ⟨Nat.zero_le _, Nat.zero_le _⟩ dX4_readThing_169 (fun r93 M92 H locs hp91 hP hS => ?_)
              obtain ⟨rfl, g94, fr95⟩ := hp91
              refine lv_if_eq (tgt := 220) hx hb dX4_readThing_172 (by decide) (fun c_172 => ?_) (fun c_172 => ?_)
              · skip
                have g96 : M92 rd = .inr (4, [.ref (ad ta), .ref (ad h), .int 6]) := by refine g94.trans ?_; simp only [pk0_t c_172]
                refine lv_iconst (v := 0) hx hb dX4_readThing_220 (by decide) ?_
                refine lv_istore_n (lv' := [(3, .int 0), (2, .int (hv 7)), (0, .ref (ad rd)), (1, .int z)]) hx hb dX4_readThing_221 rfl hl (by decide) rfl (fun ls hl => ?_)
                refine lv_aload_n hx hb dX4_readThing_222 rfl (lv_at hl 2 rfl) ?_
                refine q_get (v := .ref (ad h)) (fs := [.ref (ad ta), .ref (ad h), .int 6]) X hK hP fX4_readThing_15 h_rd g96 rfl dX4_readThing_223 ?_
                refine lv_dup hx hb dX4_readThing_226 rfl ?_
                refine q_get (v := .int (hv 7)) (fs := hallF ad h hv) X hK hP fX4_readThing_133 h_h ((fr95 h (by omega)).trans ((fr84 h (by omega)).trans ((fr71 h (by omega) (by omega) (by omega)).trans ((fr55 h (by omega) (by omega) (by omega)).trans ((fr39 h (by omega) (by omega) (by omega)).trans ((fr23 h (by omega) (by omega) (by omega)).trans ((fr15 h (by omega)).trans ((fr10 h (by omega)).trans ((fr5 h (by omega)).trans m_h))))))))) rfl dX4_readThing_227 ?_
                refine lv_iconst (v := 1) hx hb dX4_readThing_230 (by decide) ?_
                refine lv_iadd hx hb dX4_readThing_231 ?_
                refine q_put (fs := hallF ad h hv) (fs' := hallF ad h (upd hv 7 ((hv 7) + 1))) X hK hI hP hS fX4_readThing_133 fw_0_7 h_h ((fr95 h (by omega)).trans ((fr84 h (by omega)).trans ((fr71 h (by omega) (by omega) (by omega)).trans ((fr55 h (by omega) (by omega) (by omega)).trans ((fr39 h (by omega) (by omega) (by omega)).trans ((fr23 h (by omega) (by omega) (by omega)).trans ((fr15 h (by omega)).trans ((fr10 h (by omega)).trans ((fr5 h (by omega)).trans m_h))))))))) rfl rfl (Nat.le_of_ble_eq_true rfl) rfl dX4_readThing_232 (fun H locs hP hS => ?_)
                refine lv_iload_n hx hb dX4_readThing_235 rfl (lv_at hl 0 rfl) ?_
                exact q_wzret X hr hlocks hP hS (rfl) ⟨v0_67, (by rw [s_X4_readThing, if_pos c_11, if_neg c_70, if_neg c_104, if_neg c_123, if_neg c_143, if_neg c_157, if_pos c_172]), (by rw [s_X4_readThing_0_4, if_pos c_11, if_neg c_70, if_neg c_104, if_neg c_123, if_neg c_143, if_neg c_157, if_pos c_172]; exact ((va_up_ne M92 (.inr (0, hallF ad h (upd hv 7 ((hv 7) + 1)))) (show ta ≠ h by omega)).trans ((fr95 ta (by omega)).trans ((fr84 ta (by omega)).trans g77)))), (by rw [s_X4_readThing_1_2, if_pos c_11, if_neg c_70, if_neg c_104, if_neg c_123, if_neg c_143, if_neg c_157, if_pos c_172]; exact ((va_up_ne M92 (.inr (0, hallF ad h (upd hv 7 ((hv 7) + 1)))) (show rd ≠ h by omega)).trans g96)), (by rw [s_X4_readThing_2_1, if_pos c_11, if_neg c_70, if_neg c_104, if_neg c_123, if_neg c_143, if_neg c_157, if_pos c_172]; exact (va_up_self M92 h (.inr (0, hallF ad h (upd hv 7 ((hv 7) + 1)))))), (by rw [s_X4_readThing_3_f, if_pos c_11, if_neg c_70, if_neg c_104, if_neg c_123, if_neg c_143, if_neg c_157, if_pos c_172]; exact ((va_up_ne M92 (.inr (0, hallF ad h (upd hv 7 ((hv 7) + 1)))) (show h + 6 ≠ h by omega)).trans ((fr95 (h + 6) (by omega)).trans ((fr84 (h + 6) (by omega)).trans g79)))), (fun q n0 n1 n2 n3 => ((va_up_ne _ _ n2).trans ((fr95 q n1).trans ((fr84 q n1).trans ((fr71 q n0 n1 n3).trans ((fr55 q n0 n1 n3).trans ((fr39 q n0 n1 n3).trans ((fr23 q n0 n1 n3).trans ((fr15 q n3).trans ((fr10 q n3).trans (fr5 q n0)))))))))))⟩ dX4_readThing_236
              · skip
                have g99 : M92 rd = .inr (4, [.ref (ad ta), .ref (ad h), .int ft]) := by refine g94.trans ?_; simp only [pk0_f c_172]
                refine lv_aload_n hx hb dX4_readThing_175 rfl (lv_at hl 1 rfl) ?_
                refine lv_aload_n hx hb dX4_readThing_176 rfl (lv_at hl 1 rfl) ?_
                refine q_get (v := .ref (ad h)) (fs := [.ref (ad ta), .ref (ad h), .int ft]) X hK hP fX4_readThing_15 h_rd g99 rfl dX4_readThing_177 ?_
                refine q_get (v := .ref (ad (h + 5))) (fs := hallF ad h hv) X hK hP fX4_readThing_136 h_h ((fr95 h (by omega)).trans ((fr84 h (by omega)).trans ((fr71 h (by omega) (by omega) (by omega)).trans ((fr55 h (by omega) (by omega) (by omega)).trans ((fr39 h (by omega) (by omega) (by omega)).trans ((fr23 h (by omega) (by omega) (by omega)).trans ((fr15 h (by omega)).trans ((fr10 h (by omega)).trans ((fr5 h (by omega)).trans m_h))))))))) rfl dX4_readThing_180 ?_
                refine lv_iload_n hx hb dX4_readThing_183 rfl (lv_at hl 0 rfl) ?_
                refine lv_iconst (v := 5) hx hb dX4_readThing_184 (by decide) ?_
                refine q_wrVi (As := [.ref (ad (h + 5)), .int (hv 7), .int 5]) (rest := []) (c_X4_takeNumber l D cB cI cJ ad n M92 hI rd ta h en (nX en bf (nX en bf (nX en bf (nX en bf (nX en bf x))))) ln v0_67 ft bf 84 7 (tset 84 (tset 84 (tset 84 (tset 84 (tset 84 (tset 84 tf ((hv 7) * 7 + 0) z) ((hv 7) * 7 + 6) 0) ((hv 7) * 7 + 1) (nmX en bf (nX en bf x))) ((hv 7) * 7 + 2) (nmX en bf (nX en bf (nX en bf x)))) ((hv 7) * 7 + 3) (nmX en bf (nX en bf (nX en bf (nX en bf x))))) ((hv 7) * 7 + 4) (nmX en bf (nX en bf (nX en bf (nX en bf (nX en bf x)))))) (h + 5) (hv 7) 5 h_ta h_ta_1 h_rd h_h_5 h_h_6 ((fr95 ta (by omega)).trans ((fr84 ta (by omega)).trans g77)) ((fr95 (ta + 1) (by omega)).trans ((fr84 (ta + 1) (by omega)).trans ((fr71 (ta + 1) (by omega) (by omega) (by omega)).trans ((fr55 (ta + 1) (by omega) (by omega) (by omega)).trans ((fr39 (ta + 1) (by omega) (by omega) (by omega)).trans ((fr23 (ta + 1) (by omega) (by omega) (by omega)).trans ((fr15 (ta + 1) (by omega)).trans ((fr10 (ta + 1) (by omega)).trans ((fr5 (ta + 1) (by omega)).trans m_ta_1))))))))) g99 ((fr95 (h + 5) (by omega)).trans ((fr84 (h + 5) (by omega)).trans ((fr71 (h + 5) (by omega) (by omega) (by omega)).trans ((fr55 (h + 5) (by omega) (by omega) (by omega)).trans ((fr39 (h + 5) (by omega) (by omega) (by omega)).trans ((fr23 (h + 5) (by omega) (by omega) (by omega)).trans ((fr15 (h + 5) (by omega)).trans ((fr10 (h + 5) (by omega)).trans ((fr5 (h + 5) (by omega)).trans m_h_5))))))))) ((fr95 (h + 6) (by omega)).trans ((fr84 (h + 6) (by omega)).trans g79)) (by first | (apply nX_le <;> (repeat' (first | assumption | apply nX_le))) | assumption | omega | (repeat' (first | assumption | apply nX_le | exact isN_k (by assumption) | exact isT_k (by assumption))) | exact vp_in_nI (by omega) (by decide)) hen srt (by decide) (by first | (apply nX_le <;> (repeat' (first | assumption | apply nX_le))) | assumption | omega | (repeat' (first | assumption | apply nX_le | exact isN_k (by assumption) | exact isT_k (by assumption))) | exact vp_in_nI (by omega) (by decide)) (by first | (apply nX_le <;> (repeat' (first | assumption | apply nX_le))) | assumption | omega | (repeat' (first | assumption | apply nX_le | exact isN_k (by assumption) | exact isT_k (by assumption))) | exact vp_in_nI (by omega) (by decide)) (isT_k c_157)) X hK hP hS hl.1 rfl gX4_readThing_X4_takeNumber yd_X4_takeNumber ⟨Nat.le_of_ble_eq_true rfl, Nat.le_of_ble_eq_true rfl⟩ h_rd g99 (ci := 4) rfl rfl (Nat.le_of_ble_eq_true rfl) ⟨Nat.zero_le _, Nat.zero_le _⟩ dX4_readThing_185 (fun r102 M101 H locs hp100 hP hS => ?_)
                obtain ⟨v0_103, rfl, g104, g105, fr106⟩ := hp100
                refine lv_if_eq (tgt := 220) hx hb dX4_readThing_188 (by decide) (fun c_188 => ?_) (fun c_188 => ?_)
                · exact absurd c_188 (by decide)
                · clear c_188
                  refine lv_iload_n hx hb dX4_readThing_191 rfl (lv_at hl 2 rfl) ?_
                  refine lv_iconst (v := 1) hx hb dX4_readThing_192 (by decide) ?_
                  refine lv_icmp_ne (tgt := 216) hx hb dX4_readThing_193 (by decide) (fun c_193 => ?_) (fun c_193 => ?_)
                  · skip
                    refine lv_iconst (v := 1) hx hb dX4_readThing_216 (by decide) ?_
                    refine lv_goto (tgt := 221) hx hb dX4_readThing_217 (by decide) ?_
                    refine lv_istore_n (lv' := [(3, .int 1), (2, .int (hv 7)), (0, .ref (ad rd)), (1, .int z)]) hx hb dX4_readThing_221 rfl hl (by decide) rfl (fun ls hl => ?_)
                    refine lv_aload_n hx hb dX4_readThing_222 rfl (lv_at hl 2 rfl) ?_
                    refine q_get (v := .ref (ad h)) (fs := [.ref (ad ta), .ref (ad h), .int ft]) X hK hP fX4_readThing_15 h_rd ((fr106 rd (by omega) (by omega)).trans g99) rfl dX4_readThing_223 ?_
                    refine lv_dup hx hb dX4_readThing_226 rfl ?_
                    refine q_get (v := .int (hv 7)) (fs := hallF ad h hv) X hK hP fX4_readThing_133 h_h ((fr106 h (by omega) (by omega)).trans ((fr95 h (by omega)).trans ((fr84 h (by omega)).trans ((fr71 h (by omega) (by omega) (by omega)).trans ((fr55 h (by omega) (by omega) (by omega)).trans ((fr39 h (by omega) (by omega) (by omega)).trans ((fr23 h (by omega) (by omega) (by omega)).trans ((fr15 h (by omega)).trans ((fr10 h (by omega)).trans ((fr5 h (by omega)).trans m_h)))))))))) rfl dX4_readThing_227 ?_
                    refine lv_iconst (v := 1) hx hb dX4_readThing_230 (by decide) ?_
                    refine lv_iadd hx hb dX4_readThing_231 ?_
                    refine q_put (fs := hallF ad h hv) (fs' := hallF ad h (upd hv 7 ((hv 7) + 1))) X hK hI hP hS fX4_readThing_133 fw_0_7 h_h ((fr106 h (by omega) (by omega)).trans ((fr95 h (by omega)).trans ((fr84 h (by omega)).trans ((fr71 h (by omega) (by omega) (by omega)).trans ((fr55 h (by omega) (by omega) (by omega)).trans ((fr39 h (by omega) (by omega) (by omega)).trans ((fr23 h (by omega) (by omega) (by omega)).trans ((fr15 h (by omega)).trans ((fr10 h (by omega)).trans ((fr5 h (by omega)).trans m_h)))))))))) rfl rfl (Nat.le_of_ble_eq_true rfl) rfl dX4_readThing_232 (fun H locs hP hS => ?_)
                    refine lv_iload_n hx hb dX4_readThing_235 rfl (lv_at hl 0 rfl) ?_
                    exact q_wzret X hr hlocks hP hS (rfl) ⟨v0_103, (by rw [s_X4_readThing, if_pos c_11, if_neg c_70, if_neg c_104, if_neg c_123, if_neg c_143, if_neg c_157, if_neg c_172, if_neg c_193]), (by rw [s_X4_readThing_0_4, if_pos c_11, if_neg c_70, if_neg c_104, if_neg c_123, if_neg c_143, if_neg c_157, if_neg c_172, if_neg c_193]; exact ((va_up_ne M101 (.inr (0, hallF ad h (upd hv 7 ((hv 7) + 1)))) (show ta ≠ h by omega)).trans g104)), (by rw [s_X4_readThing_1_2, if_pos c_11, if_neg c_70, if_neg c_104, if_neg c_123, if_neg c_143, if_neg c_157, if_neg c_172, if_neg c_193]; exact ((va_up_ne M101 (.inr (0, hallF ad h (upd hv 7 ((hv 7) + 1)))) (show rd ≠ h by omega)).trans ((fr106 rd (by omega) (by omega)).trans g99))), (by rw [s_X4_readThing_2_1, if_pos c_11, if_neg c_70, if_neg c_104, if_neg c_123, if_neg c_143, if_neg c_157, if_neg c_172, if_neg c_193]; exact (va_up_self M101 h (.inr (0, hallF ad h (upd hv 7 ((hv 7) + 1)))))), (by rw [s_X4_readThing_3_f, if_pos c_11, if_neg c_70, if_neg c_104, if_neg c_123, if_neg c_143, if_neg c_157, if_neg c_172, if_neg c_193]; exact ((va_up_ne M101 (.inr (0, hallF ad h (upd hv 7 ((hv 7) + 1)))) (show h + 6 ≠ h by omega)).trans g105)), (fun q n0 n1 n2 n3 => ((va_up_ne _ _ n2).trans ((fr106 q n0 n3).trans ((fr95 q n1).trans ((fr84 q n1).trans ((fr71 q n0 n1 n3).trans ((fr55 q n0 n1 n3).trans ((fr39 q n0 n1 n3).trans ((fr23 q n0 n1 n3).trans ((fr15 q n3).trans ((fr10 q n3).trans (fr5 q n0))))))))))))⟩ dX4_readThing_236
                  · skip
                    refine lv_aload_n hx hb dX4_readThing_196 rfl (lv_at hl 1 rfl) ?_
                    refine lv_aload_n hx hb dX4_readThing_197 rfl (lv_at hl 1 rfl) ?_
                    refine q_get (v := .ref (ad h)) (fs := [.ref (ad ta), .ref (ad h), .int ft]) X hK hP fX4_readThing_15 h_rd ((fr106 rd (by omega) (by omega)).trans g99) rfl dX4_readThing_198 ?_
                    refine q_get (v := .ref (ad (h + 5))) (fs := hallF ad h hv) X hK hP fX4_readThing_136 h_h ((fr106 h (by omega) (by omega)).trans ((fr95 h (by omega)).trans ((fr84 h (by omega)).trans ((fr71 h (by omega) (by omega) (by omega)).trans ((fr55 h (by omega) (by omega) (by omega)).trans ((fr39 h (by omega) (by omega) (by omega)).trans ((fr23 h (by omega) (by omega) (by omega)).trans ((fr15 h (by omega)).trans ((fr10 h (by omega)).trans ((fr5 h (by omega)).trans m_h)))))))))) rfl dX4_readThing_201 ?_
                    refine lv_iload_n hx hb dX4_readThing_204 rfl (lv_at hl 0 rfl) ?_
                    refine lv_bipush (v := 6) hx hb dX4_readThing_205 (by decide) ?_
                    refine lv_iconst (v := 1) hx hb dX4_readThing_207 (by decide) ?_
                    refine lv_bipush (v := 9) hx hb dX4_readThing_208 (by decide) ?_
                    refine q_wrVi (As := [.ref (ad (h + 5)), .int (hv 7), .int 6, .int 1, .int 9]) (rest := []) (c_X4_readNumber l D cB cI cJ ad n M101 hI rd ta h en (nX en bf (nX en bf (nX en bf (nX en bf (nX en bf (nX en bf x)))))) ln v0_103 ft bf 84 7 (tset 84 (tset 84 (tset 84 (tset 84 (tset 84 (tset 84 (tset 84 tf ((hv 7) * 7 + 0) z) ((hv 7) * 7 + 6) 0) ((hv 7) * 7 + 1) (nmX en bf (nX en bf x))) ((hv 7) * 7 + 2) (nmX en bf (nX en bf (nX en bf x)))) ((hv 7) * 7 + 3) (nmX en bf (nX en bf (nX en bf (nX en bf x))))) ((hv 7) * 7 + 4) (nmX en bf (nX en bf (nX en bf (nX en bf (nX en bf x)))))) ((hv 7) * 7 + 5) (nmX en bf (nX en bf (nX en bf (nX en bf (nX en bf (nX en bf x))))))) (h + 5) (hv 7) 6 1 9 h_ta h_ta_1 h_rd h_h_5 h_h_6 g104 ((fr106 (ta + 1) (by omega) (by omega)).trans ((fr95 (ta + 1) (by omega)).trans ((fr84 (ta + 1) (by omega)).trans ((fr71 (ta + 1) (by omega) (by omega) (by omega)).trans ((fr55 (ta + 1) (by omega) (by omega) (by omega)).trans ((fr39 (ta + 1) (by omega) (by omega) (by omega)).trans ((fr23 (ta + 1) (by omega) (by omega) (by omega)).trans ((fr15 (ta + 1) (by omega)).trans ((fr10 (ta + 1) (by omega)).trans ((fr5 (ta + 1) (by omega)).trans m_ta_1)))))))))) ((fr106 rd (by omega) (by omega)).trans g99) ((fr106 (h + 5) (by omega) (by omega)).trans ((fr95 (h + 5) (by omega)).trans ((fr84 (h + 5) (by omega)).trans ((fr71 (h + 5) (by omega) (by omega) (by omega)).trans ((fr55 (h + 5) (by omega) (by omega) (by omega)).trans ((fr39 (h + 5) (by omega) (by omega) (by omega)).trans ((fr23 (h + 5) (by omega) (by omega) (by omega)).trans ((fr15 (h + 5) (by omega)).trans ((fr10 (h + 5) (by omega)).trans ((fr5 (h + 5) (by omega)).trans m_h_5)))))))))) g105 (by first | (apply nX_le <;> (repeat' (first | assumption | apply nX_le))) | assumption | omega | (repeat' (first | assumption | apply nX_le | exact isN_k (by assumption) | exact isT_k (by assumption))) | exact vp_in_nI (by omega) (by decide)) hen srt (by decide) (by first | (apply nX_le <;> (repeat' (first | assumption | apply nX_le))) | assumption | omega | (repeat' (first | assumption | apply nX_le | exact isN_k (by assumption) | exact isT_k (by assumption))) | exact vp_in_nI (by omega) (by decide)) (by first | (apply nX_le <;> (repeat' (first | assumption | apply nX_le))) | assumption | omega | (repeat' (first | assumption | apply nX_le | exact isN_k (by assumption) | exact isT_k (by assumption))) | exact vp_in_nI (by omega) (by decide))) X hK hP hS hl.1 rfl gX4_readThing_X4_readNumber yd_X4_readNumber ⟨Nat.le_of_ble_eq_true rfl, Nat.le_of_ble_eq_true rfl⟩ h_rd ((fr106 rd (by omega) (by omega)).trans g99) (ci := 4) rfl rfl (Nat.le_of_ble_eq_true rfl) ⟨Nat.zero_le _, Nat.zero_le _⟩ dX4_readThing_210 (fun r111 M110 H locs hp109 hP hS => ?_)
                    obtain ⟨v0_112, rfl, g113, g114, g115, fr116⟩ := hp109
                    refine lv_if_eq (tgt := 220) hx hb dX4_readThing_213 (by decide) (fun c_213 => ?_) (fun c_213 => ?_)
                    · skip
                      have g117 : M110 ta = .inr (9, tapeX ad ta ln en bf (nX en bf (nX en bf (nX en bf (nX en bf (nX en bf (nX en bf x)))))) v0_112) := by refine g113.trans ?_; simp only [pk0_t c_213]
                      have g118 : M110 rd = .inr (4, [.ref (ad ta), .ref (ad h), .int (fkN en bf (nX en bf (nX en bf (nX en bf (nX en bf (nX en bf (nX en bf x)))))))]) := by refine g114.trans ?_; simp only [pk0_t c_213]
                      have g119 : M110 (h + 6) = .inl (cI, 84, .inl (tset 84 (tset 84 (tset 84 (tset 84 (tset 84 (tset 84 (tset 84 tf ((hv 7) * 7 + 0) z) ((hv 7) * 7 + 6) 0) ((hv 7) * 7 + 1) (nmX en bf (nX en bf x))) ((hv 7) * 7 + 2) (nmX en bf (nX en bf (nX en bf x)))) ((hv 7) * 7 + 3) (nmX en bf (nX en bf (nX en bf (nX en bf x))))) ((hv 7) * 7 + 4) (nmX en bf (nX en bf (nX en bf (nX en bf (nX en bf x)))))) ((hv 7) * 7 + 5) (nmX en bf (nX en bf (nX en bf (nX en bf (nX en bf (nX en bf x)))))))) := by refine g115.trans ?_; simp only [pk0_t c_213]
                      refine lv_iconst (v := 0) hx hb dX4_readThing_220 (by decide) ?_
                      refine lv_istore_n (lv' := [(3, .int 0), (2, .int (hv 7)), (0, .ref (ad rd)), (1, .int z)]) hx hb dX4_readThing_221 rfl hl (by decide) rfl (fun ls hl => ?_)
                      refine lv_aload_n hx hb dX4_readThing_222 rfl (lv_at hl 2 rfl) ?_
                      refine q_get (v := .ref (ad h)) (fs := [.ref (ad ta), .ref (ad h), .int (fkN en bf (nX en bf (nX en bf (nX en bf (nX en bf (nX en bf (nX en bf x)))))))]) X hK hP fX4_readThing_15 h_rd g118 rfl dX4_readThing_223 ?_
                      refine lv_dup hx hb dX4_readThing_226 rfl ?_
                      refine q_get (v := .int (hv 7)) (fs := hallF ad h hv) X hK hP fX4_readThing_133 h_h ((fr116 h (by omega) (by omega) (by omega)).trans ((fr106 h (by omega) (by omega)).trans ((fr95 h (by omega)).trans ((fr84 h (by omega)).trans ((fr71 h (by omega) (by omega) (by omega)).trans ((fr55 h (by omega) (by omega) (by omega)).trans ((fr39 h (by omega) (by omega) (by omega)).trans ((fr23 h (by omega) (by omega) (by omega)).trans ((fr15 h (by omega)).trans ((fr10 h (by omega)).trans ((fr5 h (by omega)).trans m_h))))))))))) rfl dX4_readThing_227 ?_
                      refine lv_iconst (v := 1) hx hb dX4_readThing_230 (by decide) ?_
                      refine lv_iadd hx hb dX4_readThing_231 ?_
                      refine q_put (fs := hallF ad h hv) (fs' := hallF ad h (upd hv 7 ((hv 7) + 1))) X hK hI hP hS fX4_readThing_133 fw_0_7 h_h ((fr116 h (by omega) (by omega) (by omega)).trans ((fr106 h (by omega) (by omega)).trans ((fr95 h (by omega)).trans ((fr84 h (by omega)).trans ((fr71 h (by omega) (by omega) (by omega)).trans ((fr55 h (by omega) (by omega) (by omega)).trans ((fr39 h (by omega) (by omega) (by omega)).trans ((fr23 h (by omega) (by omega) (by omega)).trans ((fr15 h (by omega)).trans ((fr10 h (by omega)).trans ((fr5 h (by omega)).trans m_h))))))))))) rfl rfl (Nat.le_of_ble_eq_true rfl) rfl dX4_readThing_232 (fun H locs hP hS => ?_)
                      refine lv_iload_n hx hb dX4_readThing_235 rfl (lv_at hl 0 rfl) ?_
                      exact q_wzret X hr hlocks hP hS (rfl) ⟨v0_112, (by rw [s_X4_readThing, if_pos c_11, if_neg c_70, if_neg c_104, if_neg c_123, if_neg c_143, if_neg c_157, if_neg c_172, if_pos c_193, if_pos c_213]), (by rw [s_X4_readThing_0_4, if_pos c_11, if_neg c_70, if_neg c_104, if_neg c_123, if_neg c_143, if_neg c_157, if_neg c_172, if_pos c_193, if_pos c_213]; exact ((va_up_ne M110 (.inr (0, hallF ad h (upd hv 7 ((hv 7) + 1)))) (show ta ≠ h by omega)).trans g117)), (by rw [s_X4_readThing_1_2, if_pos c_11, if_neg c_70, if_neg c_104, if_neg c_123, if_neg c_143, if_neg c_157, if_neg c_172, if_pos c_193, if_pos c_213]; exact ((va_up_ne M110 (.inr (0, hallF ad h (upd hv 7 ((hv 7) + 1)))) (show rd ≠ h by omega)).trans g118)), (by rw [s_X4_readThing_2_1, if_pos c_11, if_neg c_70, if_neg c_104, if_neg c_123, if_neg c_143, if_neg c_157, if_neg c_172, if_pos c_193, if_pos c_213]; exact (va_up_self M110 h (.inr (0, hallF ad h (upd hv 7 ((hv 7) + 1)))))), (by rw [s_X4_readThing_3_f, if_pos c_11, if_neg c_70, if_neg c_104, if_neg c_123, if_neg c_143, if_neg c_157, if_neg c_172, if_pos c_193, if_pos c_213]; exact ((va_up_ne M110 (.inr (0, hallF ad h (upd hv 7 ((hv 7) + 1)))) (show h + 6 ≠ h by omega)).trans g119)), (fun q n0 n1 n2 n3 => ((va_up_ne _ _ n2).trans ((fr116 q n0 n1 n3).trans ((fr106 q n0 n3).trans ((fr95 q n1).trans ((fr84 q n1).trans ((fr71 q n0 n1 n3).trans ((fr55 q n0 n1 n3).trans ((fr39 q n0 n1 n3).trans ((fr23 q n0 n1 n3).trans ((fr15 q n3).trans ((fr10 q n3).trans (fr5 q n0)))))))))))))⟩ dX4_readThing_236
                    · skip
                      have g122 : M110 ta = .inr (9, tapeX ad ta ln en bf (nX en bf (nX en bf (nX en bf (nX en bf (nX en bf (nX en bf (nX en bf x))))))) v0_112) := by refine g113.trans ?_; simp only [pk0_f c_213]
                      have g123 : M110 rd = .inr (4, [.ref (ad ta), .ref (ad h), .int ft]) := by refine g114.trans ?_; simp only [pk0_f c_213]
                      have g124 : M110 (h + 6) = .inl (cI, 84, .inl (tset 84 (tset 84 (tset 84 (tset 84 (tset 84 (tset 84 (tset 84 (tset 84 tf ((hv 7) * 7 + 0) z) ((hv 7) * 7 + 6) 0) ((hv 7) * 7 + 1) (nmX en bf (nX en bf x))) ((hv 7) * 7 + 2) (nmX en bf (nX en bf (nX en bf x)))) ((hv 7) * 7 + 3) (nmX en bf (nX en bf (nX en bf (nX en bf x))))) ((hv 7) * 7 + 4) (nmX en bf (nX en bf (nX en bf (nX en bf (nX en bf x)))))) ((hv 7) * 7 + 5) (nmX en bf (nX en bf (nX en bf (nX en bf (nX en bf (nX en bf x))))))) ((hv 7) * 7 + 6) (nmX en bf (nX en bf (nX en bf (nX en bf (nX en bf (nX en bf (nX en bf x))))))))) := by refine g115.trans ?_; simp only [pk0_f c_213]
                      refine lv_iconst (v := 1) hx hb dX4_readThing_216 (by decide) ?_
                      refine lv_goto (tgt := 221) hx hb dX4_readThing_217 (by decide) ?_
                      refine lv_istore_n (lv' := [(3, .int 1), (2, .int (hv 7)), (0, .ref (ad rd)), (1, .int z)]) hx hb dX4_readThing_221 rfl hl (by decide) rfl (fun ls hl => ?_)
                      refine lv_aload_n hx hb dX4_readThing_222 rfl (lv_at hl 2 rfl) ?_
                      refine q_get (v := .ref (ad h)) (fs := [.ref (ad ta), .ref (ad h), .int ft]) X hK hP fX4_readThing_15 h_rd g123 rfl dX4_readThing_223 ?_
                      refine lv_dup hx hb dX4_readThing_226 rfl ?_
                      refine q_get (v := .int (hv 7)) (fs := hallF ad h hv) X hK hP fX4_readThing_133 h_h ((fr116 h (by omega) (by omega) (by omega)).trans ((fr106 h (by omega) (by omega)).trans ((fr95 h (by omega)).trans ((fr84 h (by omega)).trans ((fr71 h (by omega) (by omega) (by omega)).trans ((fr55 h (by omega) (by omega) (by omega)).trans ((fr39 h (by omega) (by omega) (by omega)).trans ((fr23 h (by omega) (by omega) (by omega)).trans ((fr15 h (by omega)).trans ((fr10 h (by omega)).trans ((fr5 h (by omega)).trans m_h))))))))))) rfl dX4_readThing_227 ?_
                      refine lv_iconst (v := 1) hx hb dX4_readThing_230 (by decide) ?_
                      refine lv_iadd hx hb dX4_readThing_231 ?_
                      refine q_put (fs := hallF ad h hv) (fs' := hallF ad h (upd hv 7 ((hv 7) + 1))) X hK hI hP hS fX4_readThing_133 fw_0_7 h_h ((fr116 h (by omega) (by omega) (by omega)).trans ((fr106 h (by omega) (by omega)).trans ((fr95 h (by omega)).trans ((fr84 h (by omega)).trans ((fr71 h (by omega) (by omega) (by omega)).trans ((fr55 h (by omega) (by omega) (by omega)).trans ((fr39 h (by omega) (by omega) (by omega)).trans ((fr23 h (by omega) (by omega) (by omega)).trans ((fr15 h (by omega)).trans ((fr10 h (by omega)).trans ((fr5 h (by omega)).trans m_h))))))))))) rfl rfl (Nat.le_of_ble_eq_true rfl) rfl dX4_readThing_232 (fun H locs hP hS => ?_)
                      refine lv_iload_n hx hb dX4_readThing_235 rfl (lv_at hl 0 rfl) ?_
                      exact q_wzret X hr hlocks hP hS (rfl) ⟨v0_112, (by rw [s_X4_readThing, if_pos c_11, if_neg c_70, if_neg c_104, if_neg c_123, if_neg c_143, if_neg c_157, if_neg c_172, if_pos c_193, if_neg c_213]), (by rw [s_X4_readThing_0_4, if_pos c_11, if_neg c_70, if_neg c_104, if_neg c_123, if_neg c_143, if_neg c_157, if_neg c_172, if_pos c_193, if_neg c_213]; exact ((va_up_ne M110 (.inr (0, hallF ad h (upd hv 7 ((hv 7) + 1)))) (show ta ≠ h by omega)).trans g122)), (by rw [s_X4_readThing_1_2, if_pos c_11, if_neg c_70, if_neg c_104, if_neg c_123, if_neg c_143, if_neg c_157, if_neg c_172, if_pos c_193, if_neg c_213]; exact ((va_up_ne M110 (.inr (0, hallF ad h (upd hv 7 ((hv 7) + 1)))) (show rd ≠ h by omega)).trans g123)), (by rw [s_X4_readThing_2_1, if_pos c_11, if_neg c_70, if_neg c_104, if_neg c_123, if_neg c_143, if_neg c_157, if_neg c_172, if_pos c_193, if_neg c_213]; exact (va_up_self M110 h (.inr (0, hallF ad h (upd hv 7 ((hv 7) + 1)))))), (by rw [s_X4_readThing_3_f, if_pos c_11, if_neg c_70, if_neg c_104, if_neg c_123, if_neg c_143, if_neg c_157, if_neg c_172, if_pos c_193, if_neg c_213]; exact ((va_up_ne M110 (.inr (0, hallF ad h (upd hv 7 ((hv 7) + 1)))) (show h + 6 ≠ h by omega)).trans g124)), (fun q n0 n1 n2 n3 => ((va_up_ne _ _ n2).trans ((fr116 q n0 n1 n3).trans ((fr106 q n0 n3).trans ((fr95 q n1).trans ((fr84 q n1).trans ((fr71 q n0 n1 n3).trans ((fr55 q n0 n1 n3).trans ((fr39 q n0 n1 n3).trans ((fr23 q n0 n1 n3).trans ((fr15 q n3).trans ((fr10 q n3).trans (fr5 q n0)))))))))))))⟩ dX4_readThing_236
  · skip
    refine lv_aload_n hx hb dX4_readThing_14 rfl (lv_at hl 1 rfl) ?_
    refine lv_iconst (v := 2) hx hb dX4_readThing_15 (by decide) ?_
    refine q_wrVi (As := [.int 2]) (rest := []) (c_X4_refuse l D cB cI cJ ad n M hI rd ta h en x ln nu ft bf 2 h_ta h_ta_1 h_rd m_ta m_ta_1 m_rd hxe hen srt) X hK hP hS hl.1 rfl gX4_readThing_X4_refuse yd_X4_refuse ⟨Nat.le_of_ble_eq_true rfl, Nat.le_of_ble_eq_true rfl⟩ h_rd m_rd (ci := 4) rfl rfl (Nat.le_of_ble_eq_true rfl) ⟨Nat.zero_le _, Nat.zero_le _⟩ dX4_readThing_16 (fun r129 M128 H locs hp127 hP hS => ?_)
    obtain ⟨rfl, g130, fr131⟩ := hp127
    exact q_wzret X hr hlocks hP hS (rfl) ⟨nu, (by rw [s_X4_readThing, if_neg c_11]), (by rw [s_X4_readThing_0_4, if_neg c_11]; exact ((fr131 ta (by omega)).trans m_ta)), (by rw [s_X4_readThing_1_2, if_neg c_11]; exact g130), (by rw [s_X4_readThing_2_1, if_neg c_11]; exact ((fr131 h (by omega)).trans m_h)), (by rw [s_X4_readThing_3_f, if_neg c_11]; exact ((fr131 (h + 6) (by omega)).trans m_h_6)), (fun q n0 n1 n2 n3 => (fr131 q n1))⟩ dX4_readThing_19
set_option maxRecDepth 20000 in
theorem fX4_isMoreThanAhead_9 : FL wsX4_isMoreThanAhead RX4 9 4 0 := ⟨RX4, TX4, 3, rfl, by decide +kernel, by decide, by decide +kernel⟩
set_option maxRecDepth 20000 in
theorem fX4_isMoreThanAhead_93 : FL wsX4_isMoreThanAhead RX4 93 9 6 := ⟨RX9, TX9, 8, rfl, by decide +kernel, by decide, by decide +kernel⟩
set_option maxRecDepth 20000 in
theorem fX4_isMoreThanAhead_15 : FL wsX4_isMoreThanAhead RX4 15 4 1 := ⟨RX4, TX4, 3, rfl, by decide +kernel, by decide, by decide +kernel⟩
set_option maxRecDepth 20000 in
theorem fX4_isMoreThanAhead_157 : FL wsX4_isMoreThanAhead RX4 157 0 3 := ⟨RX0, TX0, 12, rfl, by decide +kernel, by decide, by decide +kernel⟩
def s_X4_isMoreThanAhead (en : Nat) (x : Nat) (bf : Nat → Int32) (qf : Nat → Int32) (z : Int32) : Int32 := if z = 0 then 1 else if (tat 12 qf ((z - 1) * 2 + 0)) < (nmX en bf x) then 1 else 0
set_option maxHeartbeats 2000000 in
set_option maxRecDepth 100000 in
theorem c_X4_isMoreThanAhead (l : Launch) (D : va_G) (cB cI cJ : ClassId) (ad : Nat → Nat) (n : Nat) (M : Nat → va_E) (hI : ipI ad n) (rd ta h en x : Nat) (ln nu ft : Int32) (bf : Nat → Int32) (hv : Nat → Int32) (qf : Nat → Int32) (z : Int32) (h_ta : ta < n) (h_ta_1 : ta + 1 < n) (h_rd : rd < n) (h_h : h < n) (h_h_7 : h + 7 < n) (h_h_8 : h + 8 < n) (m_ta : M ta = .inr (9, tapeX ad ta ln en bf x nu)) (m_ta_1 : M (ta + 1) = .inl (cB, 700, .inl bf)) (m_rd : M rd = .inr (4, [.ref (ad ta), .ref (ad h), .int ft])) (m_h : M h = .inr (0, hallF ad h hv)) (m_h_7 : M (h + 7) = .inr (8, [.int 2, .ref (ad (h + 8))])) (m_h_8 : M (h + 8) = .inl (cI, 12, .inl qf)) (hxe : x ≤ en) (hen : en ≤ 700) (srt : rd < ta ∨ ta + 1 < rd) (srh : rd < h ∨ h + 15 < rd) (sth : ta + 1 < h ∨ h + 15 < ta) (hk2 : kX en bf x = 2) : cWi l D cB cI cJ ad n M yX4_isMoreThanAhead wsX4_isMoreThanAhead 1 23 [.ref (ad rd), .int z] (fun r M' => r = s_X4_isMoreThanAhead en x bf qf z ∧ M' rd = .inr (4, [.ref (ad ta), .ref (ad h), .int (pk0 (s_X4_isMoreThanAhead en x bf qf z) 4 ft)]) ∧ ∀ q : Nat, q ≠ rd → M' q = M q) := by
  refine q_body (cc := cX4_isMoreThanAhead) (maxL := 2) (ret := (some .boolean)) (by decide) rfl (Nat.le_of_ble_eq_true rfl) ?_
  intro p e s m args below meth c ls X hr hlocks hK hP hl
  obtain ⟨hx, hb, hml, hown, hts⟩ := id X
  have hS : va_S (ipA ad n) s.heap s.heap [] := va_S.rf
  have hl : lv_has ls 2 [(0, .ref (ad rd)), (1, .int z)] := hl
  refine lv_iload_n hx hb dX4_isMoreThanAhead_0 rfl (lv_at hl 1 rfl) ?_
  refine lv_if_eq (tgt := 36) hx hb dX4_isMoreThanAhead_1 (by decide) (fun c_1 => ?_) (fun c_1 => ?_)
  · skip
    refine lv_iconst (v := 1) hx hb dX4_isMoreThanAhead_36 (by decide) ?_
    refine lv_goto (tgt := 41) hx hb dX4_isMoreThanAhead_37 (by decide) ?_
    exact q_wzret X hr hlocks hP hS (rfl) ⟨(by rw [s_X4_isMoreThanAhead, if_pos c_1]), (by refine m_rd.trans ?_; rw [s_X4_isMoreThanAhead, if_pos c_1]; simp only [pk0_z, pk0_o]), (fun q n0 => rfl)⟩ dX4_isMoreThanAhead_41
  · skip
    refine lv_aload_n hx hb dX4_isMoreThanAhead_4 rfl (lv_at hl 0 rfl) ?_
    refine q_get (v := .ref (ad ta)) (fs := [.ref (ad ta), .ref (ad h), .int ft]) X hK hP fX4_isMoreThanAhead_9 h_rd m_rd rfl dX4_isMoreThanAhead_5 ?_
    refine q_get (v := .int (uX en bf x nu)) (fs := tapeX ad ta ln en bf x nu) X hK hP fX4_isMoreThanAhead_93 h_ta m_ta rfl dX4_isMoreThanAhead_8 ?_
    refine lv_topi (fun z1 e2 => ?_)
    obtain rfl : z1 = (nmX en bf x) := e2.trans (uX_num hk2 : (uX en bf x nu) = (nmX en bf x))
    refine lv_aload_n hx hb dX4_isMoreThanAhead_11 rfl (lv_at hl 0 rfl) ?_
    refine q_get (v := .ref (ad h)) (fs := [.ref (ad ta), .ref (ad h), .int ft]) X hK hP fX4_isMoreThanAhead_15 h_rd m_rd rfl dX4_isMoreThanAhead_12 ?_
    refine q_get (v := .ref (ad (h + 7))) (fs := hallF ad h hv) X hK hP fX4_isMoreThanAhead_157 h_h m_h rfl dX4_isMoreThanAhead_15 ?_
    refine lv_iload_n hx hb dX4_isMoreThanAhead_18 rfl (lv_at hl 1 rfl) ?_
    refine lv_iconst (v := 1) hx hb dX4_isMoreThanAhead_19 (by decide) ?_
    refine lv_isub hx hb dX4_isMoreThanAhead_20 ?_
    refine lv_iconst (v := 0) hx hb dX4_isMoreThanAhead_21 (by decide) ?_
    refine q_rdV (As := [.int (z - 1), .int 0]) (rest := [.int (nmX en bf x)]) (c_X8_at_ l D cB cI cJ ad n M (h + 7) (h + 8) 12 2 qf (z - 1) 0 h_h_7 h_h_8 m_h_7 m_h_8 (by decide)) X hK hP hS hl.1 rfl gX4_isMoreThanAhead_X8_at_ yd_X8_at_ ⟨Nat.le_of_ble_eq_true rfl, Nat.le_of_ble_eq_true rfl⟩ h_h_7 m_h_7 (ci := 8) rfl rfl (Nat.le_of_ble_eq_true rfl) ⟨Nat.zero_le _, Nat.zero_le _⟩ dX4_isMoreThanAhead_22 ?_
    refine lv_icmp_gt (tgt := 36) hx hb dX4_isMoreThanAhead_25 (by decide) (fun c_25 => ?_) (fun c_25 => ?_)
    · skip
      refine lv_iconst (v := 1) hx hb dX4_isMoreThanAhead_36 (by decide) ?_
      refine lv_goto (tgt := 41) hx hb dX4_isMoreThanAhead_37 (by decide) ?_
      exact q_wzret X hr hlocks hP hS (rfl) ⟨(by rw [s_X4_isMoreThanAhead, if_neg c_1, if_pos c_25]), (by refine m_rd.trans ?_; rw [s_X4_isMoreThanAhead, if_neg c_1, if_pos c_25]; simp only [pk0_z, pk0_o]), (fun q n0 => rfl)⟩ dX4_isMoreThanAhead_41
    · skip
      refine lv_aload_n hx hb dX4_isMoreThanAhead_28 rfl (lv_at hl 0 rfl) ?_
      refine lv_iconst (v := 4) hx hb dX4_isMoreThanAhead_29 (by decide) ?_
      refine q_wrVi (As := [.int 4]) (rest := []) (c_X4_refuse l D cB cI cJ ad n M hI rd ta h en x ln nu ft bf 4 h_ta h_ta_1 h_rd m_ta m_ta_1 m_rd hxe hen srt) X hK hP hS hl.1 rfl gX4_isMoreThanAhead_X4_refuse yd_X4_refuse ⟨Nat.le_of_ble_eq_true rfl, Nat.le_of_ble_eq_true rfl⟩ h_rd m_rd (ci := 4) rfl rfl (Nat.le_of_ble_eq_true rfl) ⟨Nat.zero_le _, Nat.zero_le _⟩ dX4_isMoreThanAhead_30 (fun r5 M4 H locs hp3 hP hS => ?_)
      obtain ⟨rfl, g6, fr7⟩ := hp3
      refine lv_if_eq (tgt := 40) hx hb dX4_isMoreThanAhead_33 (by decide) (fun c_33 => ?_) (fun c_33 => ?_)
      · clear c_33
        refine lv_iconst (v := 0) hx hb dX4_isMoreThanAhead_40 (by decide) ?_
        exact q_wzret X hr hlocks hP hS (rfl) ⟨(by rw [s_X4_isMoreThanAhead, if_neg c_1, if_neg c_25]), (by refine g6.trans ?_; rw [s_X4_isMoreThanAhead, if_neg c_1, if_neg c_25]; simp only [pk0_z, pk0_o]), (fun q n0 => (fr7 q n0))⟩ dX4_isMoreThanAhead_41
      · exact absurd c_33 (by decide)
set_option maxRecDepth 20000 in
theorem fX4_readPost_15 : FL wsX4_readPost RX4 15 4 1 := ⟨RX4, TX4, 3, rfl, by decide +kernel, by decide, by decide +kernel⟩
set_option maxRecDepth 20000 in
theorem fX4_readPost_151 : FL wsX4_readPost RX4 151 0 8 := ⟨RX0, TX0, 12, rfl, by decide +kernel, by decide, by decide +kernel⟩
set_option maxRecDepth 20000 in
theorem fX4_readPost_9 : FL wsX4_readPost RX4 9 4 0 := ⟨RX4, TX4, 3, rfl, by decide +kernel, by decide, by decide +kernel⟩
theorem yd_X4_isMoreThanAhead : YD yX4_isMoreThanAhead 1 := ⟨by decide +kernel, by decide +kernel, by decide +kernel⟩
set_option maxRecDepth 20000 in
theorem fX4_readPost_157 : FL wsX4_readPost RX4 157 0 3 := ⟨RX0, TX0, 12, rfl, by decide +kernel, by decide, by decide +kernel⟩
def s_X4_readPost (en : Nat) (x : Nat) (bf : Nat → Int32) (hv : Nat → Int32) (qf : Nat → Int32) : Int32 := if (hv 8) < 6 then if (s_X4_isNumber en (nX en bf x) bf 1 99) = 0 then 0 else if (s_X4_isMoreThanAhead en (nX en bf x) bf qf (hv 8)) = 0 then 0 else if ((s_X4_isNumber en (nX en bf (nX en bf x)) bf 0 999)) = 0 then 0 else 1 else (0)
def s_X4_readPost_0_4 (en : Nat) (x : Nat) (bf : Nat → Int32) (hv : Nat → Int32) (qf : Nat → Int32) : Nat := if (hv 8) < 6 then if (s_X4_isNumber en (nX en bf x) bf 1 99) = 0 then (nX en bf x) else if (s_X4_isMoreThanAhead en (nX en bf x) bf qf (hv 8)) = 0 then (nX en bf x) else if ((s_X4_isNumber en (nX en bf (nX en bf x)) bf 0 999)) = 0 then (nX en bf (nX en bf x)) else (nX en bf (nX en bf (nX en bf x))) else x
def s_X4_readPost_1_2 (en : Nat) (x : Nat) (ft : Int32) (bf : Nat → Int32) (hv : Nat → Int32) (qf : Nat → Int32) : Int32 := if (hv 8) < 6 then if (s_X4_isNumber en (nX en bf x) bf 1 99) = 0 then (fkN en bf (nX en bf x)) else if (s_X4_isMoreThanAhead en (nX en bf x) bf qf (hv 8)) = 0 then 4 else if ((s_X4_isNumber en (nX en bf (nX en bf x)) bf 0 999)) = 0 then (fkN en bf (nX en bf (nX en bf x))) else ft else 2
def s_X4_readPost_2_1 (en : Nat) (x : Nat) (bf : Nat → Int32) (hv : Nat → Int32) (qf : Nat → Int32) : Nat → Int32 := if (hv 8) < 6 then if (s_X4_isNumber en (nX en bf x) bf 1 99) = 0 then (upd hv 8 ((hv 8) + 1)) else if (s_X4_isMoreThanAhead en (nX en bf x) bf qf (hv 8)) = 0 then (upd hv 8 ((hv 8) + 1)) else if ((s_X4_isNumber en (nX en bf (nX en bf x)) bf 0 999)) = 0 then (upd hv 8 ((hv 8) + 1)) else (upd hv 8 ((hv 8) + 1)) else hv
def s_X4_readPost_3_f (en : Nat) (x : Nat) (bf : Nat → Int32) (hv : Nat → Int32) (qf : Nat → Int32) : Nat → Int32 := if (hv 8) < 6 then if (s_X4_isNumber en (nX en bf x) bf 1 99) = 0 then qf else if (s_X4_isMoreThanAhead en (nX en bf x) bf qf (hv 8)) = 0 then qf else if ((s_X4_isNumber en (nX en bf (nX en bf x)) bf 0 999)) = 0 then (tset 12 qf ((hv 8) * 2 + 0) (nmX en bf (nX en bf x))) else (tset 12 (tset 12 qf ((hv 8) * 2 + 0) (nmX en bf (nX en bf x))) ((hv 8) * 2 + 1) (nmX en bf (nX en bf (nX en bf x)))) else qf
set_option maxHeartbeats 2000000 in
set_option maxRecDepth 100000 in
theorem c_X4_readPost (l : Launch) (D : va_G) (cB cI cJ : ClassId) (ad : Nat → Nat) (n : Nat) (M : Nat → va_E) (hI : ipI ad n) (rd ta h en x : Nat) (ln nu ft : Int32) (bf : Nat → Int32) (hv : Nat → Int32) (qf : Nat → Int32) (h_ta : ta < n) (h_ta_1 : ta + 1 < n) (h_rd : rd < n) (h_h : h < n) (h_h_7 : h + 7 < n) (h_h_8 : h + 8 < n) (m_ta : M ta = .inr (9, tapeX ad ta ln en bf x nu)) (m_ta_1 : M (ta + 1) = .inl (cB, 700, .inl bf)) (m_rd : M rd = .inr (4, [.ref (ad ta), .ref (ad h), .int ft])) (m_h : M h = .inr (0, hallF ad h hv)) (m_h_7 : M (h + 7) = .inr (8, [.int 2, .ref (ad (h + 8))])) (m_h_8 : M (h + 8) = .inl (cI, 12, .inl qf)) (hxe : x ≤ en) (hen : en ≤ 700) (srt : rd < ta ∨ ta + 1 < rd) (srh : rd < h ∨ h + 15 < rd) (sth : ta + 1 < h ∨ h + 15 < ta) : cWi l D cB cI cJ ad n M yX4_readPost wsX4_readPost 7 157 [.ref (ad rd)] (fun r M' => ∃ (v0__ : Int32), r = s_X4_readPost en x bf hv qf ∧ M' ta = .inr (9, tapeX ad ta ln en bf (s_X4_readPost_0_4 en x bf hv qf) v0__) ∧ M' rd = .inr (4, [.ref (ad ta), .ref (ad h), .int (s_X4_readPost_1_2 en x ft bf hv qf)]) ∧ M' h = .inr (0, hallF ad h (s_X4_readPost_2_1 en x bf hv qf)) ∧ M' (h + 8) = .inl (cI, 12, .inl (s_X4_readPost_3_f en x bf hv qf)) ∧ ∀ q : Nat, q ≠ ta → q ≠ rd → q ≠ h → q ≠ h + 8 → M' q = M q) := by
  refine q_body (cc := cX4_readPost) (maxL := 3) (ret := (some .boolean)) (by decide) rfl (Nat.le_of_ble_eq_true rfl) ?_
  intro p e s m args below meth c ls X hr hlocks hK hP hl
  obtain ⟨hx, hb, hml, hown, hts⟩ := id X
  have hS : va_S (ipA ad n) s.heap s.heap [] := va_S.rf
  have hl : lv_has ls 3 [(0, .ref (ad rd))] := hl
  refine lv_aload_n hx hb dX4_readPost_0 rfl (lv_at hl 0 rfl) ?_
  refine q_get (v := .ref (ad h)) (fs := [.ref (ad ta), .ref (ad h), .int ft]) X hK hP fX4_readPost_15 h_rd m_rd rfl dX4_readPost_1 ?_
  refine q_get (v := .int (hv 8)) (fs := hallF ad h hv) X hK hP fX4_readPost_151 h_h m_h rfl dX4_readPost_4 ?_
  refine lv_istore_n (lv' := [(1, .int (hv 8)), (0, .ref (ad rd))]) hx hb dX4_readPost_7 rfl hl (by decide) rfl (fun ls hl => ?_)
  refine lv_iload_n hx hb dX4_readPost_8 rfl (lv_at hl 0 rfl) ?_
  refine lv_bipush (v := 6) hx hb dX4_readPost_9 (by decide) ?_
  refine lv_icmp_lt (tgt := 20) hx hb dX4_readPost_11 (by decide) (fun c_11 => ?_) (fun c_11 => ?_)
  · skip
    refine lv_aload_n hx hb dX4_readPost_20 rfl (lv_at hl 1 rfl) ?_
    refine q_get (v := .ref (ad ta)) (fs := [.ref (ad ta), .ref (ad h), .int ft]) X hK hP fX4_readPost_9 h_rd m_rd rfl dX4_readPost_21 ?_
    refine q_wrVv (As := []) (rest := []) (c_X9_adv l D cB cI cJ ad n M hI ta en x ln nu bf h_ta h_ta_1 m_ta m_ta_1 hxe hen) X hK hP hS hl.1 rfl gX4_readPost_X9_advance yd_X9_advance ⟨Nat.le_of_ble_eq_true rfl, Nat.le_of_ble_eq_true rfl⟩ h_ta m_ta (ci := 9) rfl rfl (Nat.le_of_ble_eq_true rfl) ⟨Nat.zero_le _, Nat.zero_le _⟩ dX4_readPost_24 (fun M2 H locs hp1 hP hS => ?_)
    obtain ⟨g4, fr5⟩ := hp1
    refine lv_aload_n hx hb dX4_readPost_27 rfl (lv_at hl 1 rfl) ?_
    refine lv_iconst (v := 1) hx hb dX4_readPost_28 (by decide) ?_
    refine lv_bipush (v := 99) hx hb dX4_readPost_29 (by decide) ?_
    refine q_wrVi (As := [.int 1, .int 99]) (rest := []) (c_X4_isNumber l D cB cI cJ ad n M2 hI rd ta h en (nX en bf x) ln (uX en bf x nu) ft bf 1 99 h_ta h_ta_1 h_rd g4 ((fr5 (ta + 1) (by omega)).trans m_ta_1) ((fr5 rd (by omega)).trans m_rd) (by first | (apply nX_le <;> (repeat' (first | assumption | apply nX_le))) | assumption | omega | (repeat' (first | assumption | apply nX_le | exact isN_k (by assumption) | exact isT_k (by assumption))) | exact vp_in_nI (by omega) (by decide)) hen srt) X hK hP hS hl.1 rfl gX4_readPost_X4_isNumber yd_X4_isNumber ⟨Nat.le_of_ble_eq_true rfl, Nat.le_of_ble_eq_true rfl⟩ h_rd ((fr5 rd (by omega)).trans m_rd) (ci := 4) rfl rfl (Nat.le_of_ble_eq_true rfl) ⟨Nat.zero_le _, Nat.zero_le _⟩ dX4_readPost_31 (fun r8 M7 H locs hp6 hP hS => ?_)
    obtain ⟨rfl, g9, fr10⟩ := hp6
    refine lv_if_eq (tgt := 85) hx hb dX4_readPost_34 (by decide) (fun c_34 => ?_) (fun c_34 => ?_)
    · skip
      have g11 : M7 rd = .inr (4, [.ref (ad ta), .ref (ad h), .int (fkN en bf (nX en bf x))]) := by refine g9.trans ?_; simp only [pk0_t c_34]
      refine lv_iconst (v := 0) hx hb dX4_readPost_85 (by decide) ?_
      refine lv_istore_n (lv' := [(2, .int 0), (1, .int (hv 8)), (0, .ref (ad rd))]) hx hb dX4_readPost_86 rfl hl (by decide) rfl (fun ls hl => ?_)
      refine lv_aload_n hx hb dX4_readPost_87 rfl (lv_at hl 2 rfl) ?_
      refine q_get (v := .ref (ad h)) (fs := [.ref (ad ta), .ref (ad h), .int (fkN en bf (nX en bf x))]) X hK hP fX4_readPost_15 h_rd g11 rfl dX4_readPost_88 ?_
      refine lv_dup hx hb dX4_readPost_91 rfl ?_
      refine q_get (v := .int (hv 8)) (fs := hallF ad h hv) X hK hP fX4_readPost_151 h_h ((fr10 h (by omega)).trans ((fr5 h (by omega)).trans m_h)) rfl dX4_readPost_92 ?_
      refine lv_iconst (v := 1) hx hb dX4_readPost_95 (by decide) ?_
      refine lv_iadd hx hb dX4_readPost_96 ?_
      refine q_put (fs := hallF ad h hv) (fs' := hallF ad h (upd hv 8 ((hv 8) + 1))) X hK hI hP hS fX4_readPost_151 fw_0_8 h_h ((fr10 h (by omega)).trans ((fr5 h (by omega)).trans m_h)) rfl rfl (Nat.le_of_ble_eq_true rfl) rfl dX4_readPost_97 (fun H locs hP hS => ?_)
      refine lv_iload_n hx hb dX4_readPost_100 rfl (lv_at hl 0 rfl) ?_
      exact q_wzret X hr hlocks hP hS (rfl) ⟨(uX en bf x nu), (by rw [s_X4_readPost, if_pos c_11, if_pos c_34]), (by rw [s_X4_readPost_0_4, if_pos c_11, if_pos c_34]; exact ((va_up_ne M7 (.inr (0, hallF ad h (upd hv 8 ((hv 8) + 1)))) (show ta ≠ h by omega)).trans ((fr10 ta (by omega)).trans g4))), (by rw [s_X4_readPost_1_2, if_pos c_11, if_pos c_34]; exact ((va_up_ne M7 (.inr (0, hallF ad h (upd hv 8 ((hv 8) + 1)))) (show rd ≠ h by omega)).trans g11)), (by rw [s_X4_readPost_2_1, if_pos c_11, if_pos c_34]; exact (va_up_self M7 h (.inr (0, hallF ad h (upd hv 8 ((hv 8) + 1)))))), (by rw [s_X4_readPost_3_f, if_pos c_11, if_pos c_34]; exact ((va_up_ne M7 (.inr (0, hallF ad h (upd hv 8 ((hv 8) + 1)))) (show h + 8 ≠ h by omega)).trans ((fr10 (h + 8) (by omega)).trans ((fr5 (h + 8) (by omega)).trans m_h_8)))), (fun q n0 n1 n2 n3 => ((va_up_ne _ _ n2).trans ((fr10 q n1).trans (fr5 q n0))))⟩ dX4_readPost_101
    · skip
      have g14 : M7 rd = .inr (4, [.ref (ad ta), .ref (ad h), .int ft]) := by refine g9.trans ?_; simp only [pk0_f c_34]
      refine lv_aload_n hx hb dX4_readPost_37 rfl (lv_at hl 1 rfl) ?_
      refine lv_iload_n hx hb dX4_readPost_38 rfl (lv_at hl 0 rfl) ?_
      refine q_wrVi (As := [.int (hv 8)]) (rest := []) (c_X4_isMoreThanAhead l D cB cI cJ ad n M7 hI rd ta h en (nX en bf x) ln (uX en bf x nu) ft bf hv qf (hv 8) h_ta h_ta_1 h_rd h_h h_h_7 h_h_8 ((fr10 ta (by omega)).trans g4) ((fr10 (ta + 1) (by omega)).trans ((fr5 (ta + 1) (by omega)).trans m_ta_1)) g14 ((fr10 h (by omega)).trans ((fr5 h (by omega)).trans m_h)) ((fr10 (h + 7) (by omega)).trans ((fr5 (h + 7) (by omega)).trans m_h_7)) ((fr10 (h + 8) (by omega)).trans ((fr5 (h + 8) (by omega)).trans m_h_8)) (by first | (apply nX_le <;> (repeat' (first | assumption | apply nX_le))) | assumption | omega | (repeat' (first | assumption | apply nX_le | exact isN_k (by assumption) | exact isT_k (by assumption))) | exact vp_in_nI (by omega) (by decide)) hen srt srh sth (isN_k c_34)) X hK hP hS hl.1 rfl gX4_readPost_X4_isMoreThanAhead yd_X4_isMoreThanAhead ⟨Nat.le_of_ble_eq_true rfl, Nat.le_of_ble_eq_true rfl⟩ h_rd g14 (ci := 4) rfl rfl (Nat.le_of_ble_eq_true rfl) ⟨Nat.zero_le _, Nat.zero_le _⟩ dX4_readPost_39 (fun r17 M16 H locs hp15 hP hS => ?_)
      obtain ⟨rfl, g18, fr19⟩ := hp15
      refine lv_if_eq (tgt := 85) hx hb dX4_readPost_42 (by decide) (fun c_42 => ?_) (fun c_42 => ?_)
      · skip
        have g20 : M16 rd = .inr (4, [.ref (ad ta), .ref (ad h), .int 4]) := by refine g18.trans ?_; simp only [pk0_t c_42]
        refine lv_iconst (v := 0) hx hb dX4_readPost_85 (by decide) ?_
        refine lv_istore_n (lv' := [(2, .int 0), (1, .int (hv 8)), (0, .ref (ad rd))]) hx hb dX4_readPost_86 rfl hl (by decide) rfl (fun ls hl => ?_)
        refine lv_aload_n hx hb dX4_readPost_87 rfl (lv_at hl 2 rfl) ?_
        refine q_get (v := .ref (ad h)) (fs := [.ref (ad ta), .ref (ad h), .int 4]) X hK hP fX4_readPost_15 h_rd g20 rfl dX4_readPost_88 ?_
        refine lv_dup hx hb dX4_readPost_91 rfl ?_
        refine q_get (v := .int (hv 8)) (fs := hallF ad h hv) X hK hP fX4_readPost_151 h_h ((fr19 h (by omega)).trans ((fr10 h (by omega)).trans ((fr5 h (by omega)).trans m_h))) rfl dX4_readPost_92 ?_
        refine lv_iconst (v := 1) hx hb dX4_readPost_95 (by decide) ?_
        refine lv_iadd hx hb dX4_readPost_96 ?_
        refine q_put (fs := hallF ad h hv) (fs' := hallF ad h (upd hv 8 ((hv 8) + 1))) X hK hI hP hS fX4_readPost_151 fw_0_8 h_h ((fr19 h (by omega)).trans ((fr10 h (by omega)).trans ((fr5 h (by omega)).trans m_h))) rfl rfl (Nat.le_of_ble_eq_true rfl) rfl dX4_readPost_97 (fun H locs hP hS => ?_)
        refine lv_iload_n hx hb dX4_readPost_100 rfl (lv_at hl 0 rfl) ?_
        exact q_wzret X hr hlocks hP hS (rfl) ⟨(uX en bf x nu), (by rw [s_X4_readPost, if_pos c_11, if_neg c_34, if_pos c_42]), (by rw [s_X4_readPost_0_4, if_pos c_11, if_neg c_34, if_pos c_42]; exact ((va_up_ne M16 (.inr (0, hallF ad h (upd hv 8 ((hv 8) + 1)))) (show ta ≠ h by omega)).trans ((fr19 ta (by omega)).trans ((fr10 ta (by omega)).trans g4)))), (by rw [s_X4_readPost_1_2, if_pos c_11, if_neg c_34, if_pos c_42]; exact ((va_up_ne M16 (.inr (0, hallF ad h (upd hv 8 ((hv 8) + 1)))) (show rd ≠ h by omega)).trans g20)), (by rw [s_X4_readPost_2_1, if_pos c_11, if_neg c_34, if_pos c_42]; exact (va_up_self M16 h (.inr (0, hallF ad h (upd hv 8 ((hv 8) + 1)))))), (by rw [s_X4_readPost_3_f, if_pos c_11, if_neg c_34, if_pos c_42]; exact ((va_up_ne M16 (.inr (0, hallF ad h (upd hv 8 ((hv 8) + 1)))) (show h + 8 ≠ h by omega)).trans ((fr19 (h + 8) (by omega)).trans ((fr10 (h + 8) (by omega)).trans ((fr5 (h + 8) (by omega)).trans m_h_8))))), (fun q n0 n1 n2 n3 => ((va_up_ne _ _ n2).trans ((fr19 q n1).trans ((fr10 q n1).trans (fr5 q n0)))))⟩ dX4_readPost_101
      · skip
        have g23 : M16 rd = .inr (4, [.ref (ad ta), .ref (ad h), .int ft]) := by refine g18.trans ?_; simp only [pk0_f c_42]
        refine lv_aload_n hx hb dX4_readPost_45 rfl (lv_at hl 1 rfl) ?_
        refine lv_aload_n hx hb dX4_readPost_46 rfl (lv_at hl 1 rfl) ?_
        refine q_get (v := .ref (ad h)) (fs := [.ref (ad ta), .ref (ad h), .int ft]) X hK hP fX4_readPost_15 h_rd g23 rfl dX4_readPost_47 ?_
        refine q_get (v := .ref (ad (h + 7))) (fs := hallF ad h hv) X hK hP fX4_readPost_157 h_h ((fr19 h (by omega)).trans ((fr10 h (by omega)).trans ((fr5 h (by omega)).trans m_h))) rfl dX4_readPost_50 ?_
        refine lv_iload_n hx hb dX4_readPost_53 rfl (lv_at hl 0 rfl) ?_
        refine lv_iconst (v := 0) hx hb dX4_readPost_54 (by decide) ?_
        refine q_wrVi (As := [.ref (ad (h + 7)), .int (hv 8), .int 0]) (rest := []) (c_X4_takeNumber l D cB cI cJ ad n M16 hI rd ta h en (nX en bf x) ln (uX en bf x nu) ft bf 12 2 qf (h + 7) (hv 8) 0 h_ta h_ta_1 h_rd h_h_7 h_h_8 ((fr19 ta (by omega)).trans ((fr10 ta (by omega)).trans g4)) ((fr19 (ta + 1) (by omega)).trans ((fr10 (ta + 1) (by omega)).trans ((fr5 (ta + 1) (by omega)).trans m_ta_1))) g23 ((fr19 (h + 7) (by omega)).trans ((fr10 (h + 7) (by omega)).trans ((fr5 (h + 7) (by omega)).trans m_h_7))) ((fr19 (h + 8) (by omega)).trans ((fr10 (h + 8) (by omega)).trans ((fr5 (h + 8) (by omega)).trans m_h_8))) (by first | (apply nX_le <;> (repeat' (first | assumption | apply nX_le))) | assumption | omega | (repeat' (first | assumption | apply nX_le | exact isN_k (by assumption) | exact isT_k (by assumption))) | exact vp_in_nI (by omega) (by decide)) hen srt (by decide) (by first | (apply nX_le <;> (repeat' (first | assumption | apply nX_le))) | assumption | omega | (repeat' (first | assumption | apply nX_le | exact isN_k (by assumption) | exact isT_k (by assumption))) | exact vp_in_nI (by omega) (by decide)) (by first | (apply nX_le <;> (repeat' (first | assumption | apply nX_le))) | assumption | omega | (repeat' (first | assumption | apply nX_le | exact isN_k (by assumption) | exact isT_k (by assumption))) | exact vp_in_nI (by omega) (by decide)) (isN_k c_34)) X hK hP hS hl.1 rfl gX4_readPost_X4_takeNumber yd_X4_takeNumber ⟨Nat.le_of_ble_eq_true rfl, Nat.le_of_ble_eq_true rfl⟩ h_rd g23 (ci := 4) rfl rfl (Nat.le_of_ble_eq_true rfl) ⟨Nat.zero_le _, Nat.zero_le _⟩ dX4_readPost_55 (fun r26 M25 H locs hp24 hP hS => ?_)
        obtain ⟨v0_27, rfl, g28, g29, fr30⟩ := hp24
        refine lv_if_eq (tgt := 85) hx hb dX4_readPost_58 (by decide) (fun c_58 => ?_) (fun c_58 => ?_)
        · exact absurd c_58 (by decide)
        · clear c_58
          refine lv_aload_n hx hb dX4_readPost_61 rfl (lv_at hl 1 rfl) ?_
          refine lv_aload_n hx hb dX4_readPost_62 rfl (lv_at hl 1 rfl) ?_
          refine q_get (v := .ref (ad h)) (fs := [.ref (ad ta), .ref (ad h), .int ft]) X hK hP fX4_readPost_15 h_rd ((fr30 rd (by omega) (by omega)).trans g23) rfl dX4_readPost_63 ?_
          refine q_get (v := .ref (ad (h + 7))) (fs := hallF ad h hv) X hK hP fX4_readPost_157 h_h ((fr30 h (by omega) (by omega)).trans ((fr19 h (by omega)).trans ((fr10 h (by omega)).trans ((fr5 h (by omega)).trans m_h)))) rfl dX4_readPost_66 ?_
          refine lv_iload_n hx hb dX4_readPost_69 rfl (lv_at hl 0 rfl) ?_
          refine lv_iconst (v := 1) hx hb dX4_readPost_70 (by decide) ?_
          refine lv_iconst (v := 0) hx hb dX4_readPost_71 (by decide) ?_
          refine lv_sipush (v := 999) hx hb dX4_readPost_72 (by decide) ?_
          refine q_wrVi (As := [.ref (ad (h + 7)), .int (hv 8), .int 1, .int 0, .int 999]) (rest := []) (c_X4_readNumber l D cB cI cJ ad n M25 hI rd ta h en (nX en bf (nX en bf x)) ln v0_27 ft bf 12 2 (tset 12 qf ((hv 8) * 2 + 0) (nmX en bf (nX en bf x))) (h + 7) (hv 8) 1 0 999 h_ta h_ta_1 h_rd h_h_7 h_h_8 g28 ((fr30 (ta + 1) (by omega) (by omega)).trans ((fr19 (ta + 1) (by omega)).trans ((fr10 (ta + 1) (by omega)).trans ((fr5 (ta + 1) (by omega)).trans m_ta_1)))) ((fr30 rd (by omega) (by omega)).trans g23) ((fr30 (h + 7) (by omega) (by omega)).trans ((fr19 (h + 7) (by omega)).trans ((fr10 (h + 7) (by omega)).trans ((fr5 (h + 7) (by omega)).trans m_h_7)))) g29 (by first | (apply nX_le <;> (repeat' (first | assumption | apply nX_le))) | assumption | omega | (repeat' (first | assumption | apply nX_le | exact isN_k (by assumption) | exact isT_k (by assumption))) | exact vp_in_nI (by omega) (by decide)) hen srt (by decide) (by first | (apply nX_le <;> (repeat' (first | assumption | apply nX_le))) | assumption | omega | (repeat' (first | assumption | apply nX_le | exact isN_k (by assumption) | exact isT_k (by assumption))) | exact vp_in_nI (by omega) (by decide)) (by first | (apply nX_le <;> (repeat' (first | assumption | apply nX_le))) | assumption | omega | (repeat' (first | assumption | apply nX_le | exact isN_k (by assumption) | exact isT_k (by assumption))) | exact vp_in_nI (by omega) (by decide))) X hK hP hS hl.1 rfl gX4_readPost_X4_readNumber yd_X4_readNumber ⟨Nat.le_of_ble_eq_true rfl, Nat.le_of_ble_eq_true rfl⟩ h_rd ((fr30 rd (by omega) (by omega)).trans g23) (ci := 4) rfl rfl (Nat.le_of_ble_eq_true rfl) ⟨Nat.zero_le _, Nat.zero_le _⟩ dX4_readPost_75 (fun r33 M32 H locs hp31 hP hS => ?_)
          obtain ⟨v0_34, rfl, g35, g36, g37, fr38⟩ := hp31
          refine lv_if_eq (tgt := 85) hx hb dX4_readPost_78 (by decide) (fun c_78 => ?_) (fun c_78 => ?_)
          · skip
            have g39 : M32 ta = .inr (9, tapeX ad ta ln en bf (nX en bf (nX en bf x)) v0_34) := by refine g35.trans ?_; simp only [pk0_t c_78]
            have g40 : M32 rd = .inr (4, [.ref (ad ta), .ref (ad h), .int (fkN en bf (nX en bf (nX en bf x)))]) := by refine g36.trans ?_; simp only [pk0_t c_78]
            have g41 : M32 (h + 8) = .inl (cI, 12, .inl (tset 12 qf ((hv 8) * 2 + 0) (nmX en bf (nX en bf x)))) := by refine g37.trans ?_; simp only [pk0_t c_78]
            refine lv_iconst (v := 0) hx hb dX4_readPost_85 (by decide) ?_
            refine lv_istore_n (lv' := [(2, .int 0), (1, .int (hv 8)), (0, .ref (ad rd))]) hx hb dX4_readPost_86 rfl hl (by decide) rfl (fun ls hl => ?_)
            refine lv_aload_n hx hb dX4_readPost_87 rfl (lv_at hl 2 rfl) ?_
            refine q_get (v := .ref (ad h)) (fs := [.ref (ad ta), .ref (ad h), .int (fkN en bf (nX en bf (nX en bf x)))]) X hK hP fX4_readPost_15 h_rd g40 rfl dX4_readPost_88 ?_
            refine lv_dup hx hb dX4_readPost_91 rfl ?_
            refine q_get (v := .int (hv 8)) (fs := hallF ad h hv) X hK hP fX4_readPost_151 h_h ((fr38 h (by omega) (by omega) (by omega)).trans ((fr30 h (by omega) (by omega)).trans ((fr19 h (by omega)).trans ((fr10 h (by omega)).trans ((fr5 h (by omega)).trans m_h))))) rfl dX4_readPost_92 ?_
            refine lv_iconst (v := 1) hx hb dX4_readPost_95 (by decide) ?_
            refine lv_iadd hx hb dX4_readPost_96 ?_
            refine q_put (fs := hallF ad h hv) (fs' := hallF ad h (upd hv 8 ((hv 8) + 1))) X hK hI hP hS fX4_readPost_151 fw_0_8 h_h ((fr38 h (by omega) (by omega) (by omega)).trans ((fr30 h (by omega) (by omega)).trans ((fr19 h (by omega)).trans ((fr10 h (by omega)).trans ((fr5 h (by omega)).trans m_h))))) rfl rfl (Nat.le_of_ble_eq_true rfl) rfl dX4_readPost_97 (fun H locs hP hS => ?_)
            refine lv_iload_n hx hb dX4_readPost_100 rfl (lv_at hl 0 rfl) ?_
            exact q_wzret X hr hlocks hP hS (rfl) ⟨v0_34, (by rw [s_X4_readPost, if_pos c_11, if_neg c_34, if_neg c_42, if_pos c_78]), (by rw [s_X4_readPost_0_4, if_pos c_11, if_neg c_34, if_neg c_42, if_pos c_78]; exact ((va_up_ne M32 (.inr (0, hallF ad h (upd hv 8 ((hv 8) + 1)))) (show ta ≠ h by omega)).trans g39)), (by rw [s_X4_readPost_1_2, if_pos c_11, if_neg c_34, if_neg c_42, if_pos c_78]; exact ((va_up_ne M32 (.inr (0, hallF ad h (upd hv 8 ((hv 8) + 1)))) (show rd ≠ h by omega)).trans g40)), (by rw [s_X4_readPost_2_1, if_pos c_11, if_neg c_34, if_neg c_42, if_pos c_78]; exact (va_up_self M32 h (.inr (0, hallF ad h (upd hv 8 ((hv 8) + 1)))))), (by rw [s_X4_readPost_3_f, if_pos c_11, if_neg c_34, if_neg c_42, if_pos c_78]; exact ((va_up_ne M32 (.inr (0, hallF ad h (upd hv 8 ((hv 8) + 1)))) (show h + 8 ≠ h by omega)).trans g41)), (fun q n0 n1 n2 n3 => ((va_up_ne _ _ n2).trans ((fr38 q n0 n1 n3).trans ((fr30 q n0 n3).trans ((fr19 q n1).trans ((fr10 q n1).trans (fr5 q n0)))))))⟩ dX4_readPost_101
          · skip
            have g44 : M32 ta = .inr (9, tapeX ad ta ln en bf (nX en bf (nX en bf (nX en bf x))) v0_34) := by refine g35.trans ?_; simp only [pk0_f c_78]
            have g45 : M32 rd = .inr (4, [.ref (ad ta), .ref (ad h), .int ft]) := by refine g36.trans ?_; simp only [pk0_f c_78]
            have g46 : M32 (h + 8) = .inl (cI, 12, .inl (tset 12 (tset 12 qf ((hv 8) * 2 + 0) (nmX en bf (nX en bf x))) ((hv 8) * 2 + 1) (nmX en bf (nX en bf (nX en bf x))))) := by refine g37.trans ?_; simp only [pk0_f c_78]
            refine lv_iconst (v := 1) hx hb dX4_readPost_81 (by decide) ?_
            refine lv_goto (tgt := 86) hx hb dX4_readPost_82 (by decide) ?_
            refine lv_istore_n (lv' := [(2, .int 1), (1, .int (hv 8)), (0, .ref (ad rd))]) hx hb dX4_readPost_86 rfl hl (by decide) rfl (fun ls hl => ?_)
            refine lv_aload_n hx hb dX4_readPost_87 rfl (lv_at hl 2 rfl) ?_
            refine q_get (v := .ref (ad h)) (fs := [.ref (ad ta), .ref (ad h), .int ft]) X hK hP fX4_readPost_15 h_rd g45 rfl dX4_readPost_88 ?_
            refine lv_dup hx hb dX4_readPost_91 rfl ?_
            refine q_get (v := .int (hv 8)) (fs := hallF ad h hv) X hK hP fX4_readPost_151 h_h ((fr38 h (by omega) (by omega) (by omega)).trans ((fr30 h (by omega) (by omega)).trans ((fr19 h (by omega)).trans ((fr10 h (by omega)).trans ((fr5 h (by omega)).trans m_h))))) rfl dX4_readPost_92 ?_
            refine lv_iconst (v := 1) hx hb dX4_readPost_95 (by decide) ?_
            refine lv_iadd hx hb dX4_readPost_96 ?_
            refine q_put (fs := hallF ad h hv) (fs' := hallF ad h (upd hv 8 ((hv 8) + 1))) X hK hI hP hS fX4_readPost_151 fw_0_8 h_h ((fr38 h (by omega) (by omega) (by omega)).trans ((fr30 h (by omega) (by omega)).trans ((fr19 h (by omega)).trans ((fr10 h (by omega)).trans ((fr5 h (by omega)).trans m_h))))) rfl rfl (Nat.le_of_ble_eq_true rfl) rfl dX4_readPost_97 (fun H locs hP hS => ?_)
            refine lv_iload_n hx hb dX4_readPost_100 rfl (lv_at hl 0 rfl) ?_
            exact q_wzret X hr hlocks hP hS (rfl) ⟨v0_34, (by rw [s_X4_readPost, if_pos c_11, if_neg c_34, if_neg c_42, if_neg c_78]), (by rw [s_X4_readPost_0_4, if_pos c_11, if_neg c_34, if_neg c_42, if_neg c_78]; exact ((va_up_ne M32 (.inr (0, hallF ad h (upd hv 8 ((hv 8) + 1)))) (show ta ≠ h by omega)).trans g44)), (by rw [s_X4_readPost_1_2, if_pos c_11, if_neg c_34, if_neg c_42, if_neg c_78]; exact ((va_up_ne M32 (.inr (0, hallF ad h (upd hv 8 ((hv 8) + 1)))) (show rd ≠ h by omega)).trans g45)), (by rw [s_X4_readPost_2_1, if_pos c_11, if_neg c_34, if_neg c_42, if_neg c_78]; exact (va_up_self M32 h (.inr (0, hallF ad h (upd hv 8 ((hv 8) + 1)))))), (by rw [s_X4_readPost_3_f, if_pos c_11, if_neg c_34, if_neg c_42, if_neg c_78]; exact ((va_up_ne M32 (.inr (0, hallF ad h (upd hv 8 ((hv 8) + 1)))) (show h + 8 ≠ h by omega)).trans g46)), (fun q n0 n1 n2 n3 => ((va_up_ne _ _ n2).trans ((fr38 q n0 n1 n3).trans ((fr30 q n0 n3).trans ((fr19 q n1).trans ((fr10 q n1).trans (fr5 q n0)))))))⟩ dX4_readPost_101
  · skip
    refine lv_aload_n hx hb dX4_readPost_14 rfl (lv_at hl 1 rfl) ?_
    refine lv_iconst (v := 2) hx hb dX4_readPost_15 (by decide) ?_
    refine q_wrVi (As := [.int 2]) (rest := []) (c_X4_refuse l D cB cI cJ ad n M hI rd ta h en x ln nu ft bf 2 h_ta h_ta_1 h_rd m_ta m_ta_1 m_rd hxe hen srt) X hK hP hS hl.1 rfl gX4_readPost_X4_refuse yd_X4_refuse ⟨Nat.le_of_ble_eq_true rfl, Nat.le_of_ble_eq_true rfl⟩ h_rd m_rd (ci := 4) rfl rfl (Nat.le_of_ble_eq_true rfl) ⟨Nat.zero_le _, Nat.zero_le _⟩ dX4_readPost_16 (fun r51 M50 H locs hp49 hP hS => ?_)
    obtain ⟨rfl, g52, fr53⟩ := hp49
    exact q_wzret X hr hlocks hP hS (rfl) ⟨nu, (by rw [s_X4_readPost, if_neg c_11]), (by rw [s_X4_readPost_0_4, if_neg c_11]; exact ((fr53 ta (by omega)).trans m_ta)), (by rw [s_X4_readPost_1_2, if_neg c_11]; exact g52), (by rw [s_X4_readPost_2_1, if_neg c_11]; exact ((fr53 h (by omega)).trans m_h)), (by rw [s_X4_readPost_3_f, if_neg c_11]; exact ((fr53 (h + 8) (by omega)).trans m_h_8)), (fun q n0 n1 n2 n3 => (fr53 q n1))⟩ dX4_readPost_19
end
