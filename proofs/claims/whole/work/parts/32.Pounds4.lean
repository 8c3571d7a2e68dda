/-! PoundsOver: what can be asked, where it doesn't throw -/
theorem sw_in {x k : Int32} {a : Int} (h0 : ¬ x < 0) (h1 : x < k) (hk : k.toInt = a) : 0 ≤ x.toInt ∧ x.toInt < a := by
  have g1 := Int32.le_iff_toInt_le.mp (Int32.not_lt.mp h0)
  have g2 := Int32.lt_iff_toInt_lt.mp h1
  have e0 : (0 : Int32).toInt = 0 := by decide
  rw [e0] at g1
  rw [hk] at g2
  exact ⟨g1, g2⟩
set_option maxRecDepth 20000 in
theorem fX12_count_19 : FL wsX12_count RX12 19 11 1 := ⟨RX12, TX12, 14, rfl, by decide +kernel, by decide, by decide +kernel⟩
set_option maxRecDepth 20000 in
theorem fX12_count_122 : FL wsX12_count RX12 122 0 5 := ⟨RX0, TX0, 12, rfl, by decide +kernel, by decide, by decide +kernel⟩
set_option maxRecDepth 20000 in
theorem fX12_count_125 : FL wsX12_count RX12 125 0 6 := ⟨RX0, TX0, 12, rfl, by decide +kernel, by decide, by decide +kernel⟩
set_option maxRecDepth 20000 in
theorem fX12_count_128 : FL wsX12_count RX12 128 0 7 := ⟨RX0, TX0, 12, rfl, by decide +kernel, by decide, by decide +kernel⟩
set_option maxRecDepth 20000 in
theorem fX12_count_131 : FL wsX12_count RX12 131 0 8 := ⟨RX0, TX0, 12, rfl, by decide +kernel, by decide, by decide +kernel⟩
set_option maxRecDepth 20000 in
theorem fX12_count_134 : FL wsX12_count RX12 134 0 10 := ⟨RX0, TX0, 12, rfl, by decide +kernel, by decide, by decide +kernel⟩
set_option maxRecDepth 20000 in
theorem fX12_count_137 : FL wsX12_count RX12 137 0 11 := ⟨RX0, TX0, 12, rfl, by decide +kernel, by decide, by decide +kernel⟩
set_option maxRecDepth 20000 in
theorem fX12_count_40 : FL wsX12_count RX12 40 11 4 := ⟨RX12, TX12, 14, rfl, by decide +kernel, by decide, by decide +kernel⟩
set_option maxRecDepth 20000 in
theorem fX12_count_140 : FL wsX12_count RX12 140 7 2 := ⟨RX7, TX7, 3, rfl, by decide +kernel, by decide, by decide +kernel⟩
set_option maxRecDepth 20000 in
theorem fX12_count_47 : FL wsX12_count RX12 47 11 5 := ⟨RX12, TX12, 14, rfl, by decide +kernel, by decide, by decide +kernel⟩
set_option maxRecDepth 20000 in
theorem fX12_count_143 : FL wsX12_count RX12 143 1 1 := ⟨RX1, TX1, 5, rfl, by decide +kernel, by decide, by decide +kernel⟩
set_option maxRecDepth 20000 in
theorem fX12_count_146 : FL wsX12_count RX12 146 1 3 := ⟨RX1, TX1, 5, rfl, by decide +kernel, by decide, by decide +kernel⟩
set_option maxRecDepth 20000 in
theorem fX12_count_12 : FL wsX12_count RX12 12 11 0 := ⟨RX12, TX12, 14, rfl, by decide +kernel, by decide, by decide +kernel⟩
set_option maxRecDepth 20000 in
theorem fX12_count_89 : FL wsX12_count RX12 89 9 1 := ⟨RX9, TX9, 8, rfl, by decide +kernel, by decide, by decide +kernel⟩
set_option maxRecDepth 20000 in
theorem fX12_count_149 : FL wsX12_count RX12 149 1 4 := ⟨RX1, TX1, 5, rfl, by decide +kernel, by decide, by decide +kernel⟩
def s_X12_count (ln : Int32) (op : Int32) (ak : Int32) (sk : Int32) (hv : Nat → Int32) (tf2 : Nat → Int32) (x : Int32) : Int32 := if x = 0 then (hv 5) else if x = 1 then (hv 6) else if x = 2 then (hv 7) else if x = 3 then (hv 8) else if x = 4 then (hv 10) else if x = 5 then (hv 11) else if x = 6 then op else if x = 7 then ak else if x = 8 then sk else if x = 9 then ln else if x = 10 then (tat 3 tf2 (x - 10)) else if x = 11 then (tat 3 tf2 (x - 10)) else if x = 12 then (tat 3 tf2 (x - 10)) else 0
set_option maxHeartbeats 4000000 in
set_option maxRecDepth 100000 in
theorem c_X12_count (l : Launch) (D : va_G) (cB cI cJ : ClassId) (ad : Nat → Nat) (n : Nat) (M : Nat → va_E) (po ta h h2 re g o g2 o2 kb an sc tr : Nat) (ik fp : Int32) (ln en nx pl kd nu op ak sk : Int32) (wo : Nat) (hv tf2 : Nat → Int32) (x : Int32) (h_po : po < n) (h_h : h < n) (h_g : g < n) (h_o : o < n) (h_ta : ta < n) (h_o_5 : o + 5 < n) (h_o_6 : o + 6 < n) (m_po : M po = .inr (11, poF ad po ta h h2 re g o g2 o2 ik fp kb an sc tr)) (m_h : M h = .inr (0, hallF ad h hv)) (m_g : M g = .inr (7, standF ad g h op)) (m_o : M o = .inr (1, logF ad o ak sk)) (m_ta : M ta = .inr (9, tapeF ad ta ln en nx pl kd nu wo)) (m_o_5 : M (o + 5) = .inr (8, [.int 1, .ref (ad (o + 6))])) (m_o_6 : M (o + 6) = .inl (cI, 3, .inl tf2)) (gw0 : ¬ x < 0) (gw1 : x < 13) : cR l D cB cI cJ ad n M yX12_count wsX12_count 1 21 [.ref (ad po), .int x] (s_X12_count ln op ak sk hv tf2 x) := by
  refine q_body (cc := cX12_count) (maxL := 2) (ret := (some .int)) (by decide) rfl (Nat.le_of_ble_eq_true rfl) ?_
  intro p e s m args below meth c ls X hr hlocks hK hP hl
  obtain ⟨hx, hb, hml, hown, hts⟩ := id X
  have hS : va_S (ipA ad n) s.heap s.heap [] := va_S.rf
  have hl : lv_has ls 2 [(0, .ref (ad po)), (1, .int x)] := hl
  refine lv_iload_n hx hb dX12_count_0 rfl (lv_at hl 1 rfl) ?_
  by_cases c_1_0 : x = 0
  · refine lv_tableIn (off := 67) (tgt := 68) hx hb dX12_count_1 (by rw [c_1_0]; decide) (by rw [c_1_0]; decide) (by rw [c_1_0]; decide) (by decide) ?_
    refine lv_aload_n hx hb dX12_count_68 rfl (lv_at hl 0 rfl) ?_
    refine q_get (v := .ref (ad h)) (fs := poF ad po ta h h2 re g o g2 o2 ik fp kb an sc tr) X hK hP fX12_count_19 h_po m_po rfl dX12_count_69 ?_
    refine q_get (v := .int (hv 5)) (fs := hallF ad h hv) X hK hP fX12_count_122 h_h m_h rfl dX12_count_72 ?_
    exact q_iret hb hx hr hlocks (by rw [s_X12_count, if_pos c_1_0]) dX12_count_75
  by_cases c_1_1 : x = 1
  · refine lv_tableIn (off := 75) (tgt := 76) hx hb dX12_count_1 (by rw [c_1_1]; decide) (by rw [c_1_1]; decide) (by rw [c_1_1]; decide) (by decide) ?_
    refine lv_aload_n hx hb dX12_count_76 rfl (lv_at hl 0 rfl) ?_
    refine q_get (v := .ref (ad h)) (fs := poF ad po ta h h2 re g o g2 o2 ik fp kb an sc tr) X hK hP fX12_count_19 h_po m_po rfl dX12_count_77 ?_
    refine q_get (v := .int (hv 6)) (fs := hallF ad h hv) X hK hP fX12_count_125 h_h m_h rfl dX12_count_80 ?_
    exact q_iret hb hx hr hlocks (by rw [s_X12_count, if_neg c_1_0, if_pos c_1_1]) dX12_count_83
  by_cases c_1_2 : x = 2
  · refine lv_tableIn (off := 83) (tgt := 84) hx hb dX12_count_1 (by rw [c_1_2]; decide) (by rw [c_1_2]; decide) (by rw [c_1_2]; decide) (by decide) ?_
    refine lv_aload_n hx hb dX12_count_84 rfl (lv_at hl 0 rfl) ?_
    refine q_get (v := .ref (ad h)) (fs := poF ad po ta h h2 re g o g2 o2 ik fp kb an sc tr) X hK hP fX12_count_19 h_po m_po rfl dX12_count_85 ?_
    refine q_get (v := .int (hv 7)) (fs := hallF ad h hv) X hK hP fX12_count_128 h_h m_h rfl dX12_count_88 ?_
    exact q_iret hb hx hr hlocks (by rw [s_X12_count, if_neg c_1_0, if_neg c_1_1, if_pos c_1_2]) dX12_count_91
  by_cases c_1_3 : x = 3
  · refine lv_tableIn (off := 91) (tgt := 92) hx hb dX12_count_1 (by rw [c_1_3]; decide) (by rw [c_1_3]; decide) (by rw [c_1_3]; decide) (by decide) ?_
    refine lv_aload_n hx hb dX12_count_92 rfl (lv_at hl 0 rfl) ?_
    refine q_get (v := .ref (ad h)) (fs := poF ad po ta h h2 re g o g2 o2 ik fp kb an sc tr) X hK hP fX12_count_19 h_po m_po rfl dX12_count_93 ?_
    refine q_get (v := .int (hv 8)) (fs := hallF ad h hv) X hK hP fX12_count_131 h_h m_h rfl dX12_count_96 ?_
    exact q_iret hb hx hr hlocks (by rw [s_X12_count, if_neg c_1_0, if_neg c_1_1, if_neg c_1_2, if_pos c_1_3]) dX12_count_99
  by_cases c_1_4 : x = 4
  · refine lv_tableIn (off := 99) (tgt := 100) hx hb dX12_count_1 (by rw [c_1_4]; decide) (by rw [c_1_4]; decide) (by rw [c_1_4]; decide) (by decide) ?_
    refine lv_aload_n hx hb dX12_count_100 rfl (lv_at hl 0 rfl) ?_
    refine q_get (v := .ref (ad h)) (fs := poF ad po ta h h2 re g o g2 o2 ik fp kb an sc tr) X hK hP fX12_count_19 h_po m_po rfl dX12_count_101 ?_
    refine q_get (v := .int (hv 10)) (fs := hallF ad h hv) X hK hP fX12_count_134 h_h m_h rfl dX12_count_104 ?_
    exact q_iret hb hx hr hlocks (by rw [s_X12_count, if_neg c_1_0, if_neg c_1_1, if_neg c_1_2, if_neg c_1_3, if_pos c_1_4]) dX12_count_107
  by_cases c_1_5 : x = 5
  · refine lv_tableIn (off := 107) (tgt := 108) hx hb dX12_count_1 (by rw [c_1_5]; decide) (by rw [c_1_5]; decide) (by rw [c_1_5]; decide) (by decide) ?_
    refine lv_aload_n hx hb dX12_count_108 rfl (lv_at hl 0 rfl) ?_
    refine q_get (v := .ref (ad h)) (fs := poF ad po ta h h2 re g o g2 o2 ik fp kb an sc tr) X hK hP fX12_count_19 h_po m_po rfl dX12_count_109 ?_
    refine q_get (v := .int (hv 11)) (fs := hallF ad h hv) X hK hP fX12_count_137 h_h m_h rfl dX12_count_112 ?_
    exact q_iret hb hx hr hlocks (by rw [s_X12_count, if_neg c_1_0, if_neg c_1_1, if_neg c_1_2, if_neg c_1_3, if_neg c_1_4, if_pos c_1_5]) dX12_count_115
  by_cases c_1_6 : x = 6
  · refine lv_tableIn (off := 115) (tgt := 116) hx hb dX12_count_1 (by rw [c_1_6]; decide) (by rw [c_1_6]; decide) (by rw [c_1_6]; decide) (by decide) ?_
    refine lv_aload_n hx hb dX12_count_116 rfl (lv_at hl 0 rfl) ?_
    refine q_get (v := .ref (ad g)) (fs := poF ad po ta h h2 re g o g2 o2 ik fp kb an sc tr) X hK hP fX12_count_40 h_po m_po rfl dX12_count_117 ?_
    refine q_get (v := .int op) (fs := standF ad g h op) X hK hP fX12_count_140 h_g m_g rfl dX12_count_120 ?_
    exact q_iret hb hx hr hlocks (by rw [s_X12_count, if_neg c_1_0, if_neg c_1_1, if_neg c_1_2, if_neg c_1_3, if_neg c_1_4, if_neg c_1_5, if_pos c_1_6]) dX12_count_123
  by_cases c_1_7 : x = 7
  · refine lv_tableIn (off := 123) (tgt := 124) hx hb dX12_count_1 (by rw [c_1_7]; decide) (by rw [c_1_7]; decide) (by rw [c_1_7]; decide) (by decide) ?_
    refine lv_aload_n hx hb dX12_count_124 rfl (lv_at hl 0 rfl) ?_
    refine q_get (v := .ref (ad o)) (fs := poF ad po ta h h2 re g o g2 o2 ik fp kb an sc tr) X hK hP fX12_count_47 h_po m_po rfl dX12_count_125 ?_
    refine q_get (v := .int ak) (fs := logF ad o ak sk) X hK hP fX12_count_143 h_o m_o rfl dX12_count_128 ?_
    exact q_iret hb hx hr hlocks (by rw [s_X12_count, if_neg c_1_0, if_neg c_1_1, if_neg c_1_2, if_neg c_1_3, if_neg c_1_4, if_neg c_1_5, if_neg c_1_6, if_pos c_1_7]) dX12_count_131
  by_cases c_1_8 : x = 8
  · refine lv_tableIn (off := 131) (tgt := 132) hx hb dX12_count_1 (by rw [c_1_8]; decide) (by rw [c_1_8]; decide) (by rw [c_1_8]; decide) (by decide) ?_
    refine lv_aload_n hx hb dX12_count_132 rfl (lv_at hl 0 rfl) ?_
    refine q_get (v := .ref (ad o)) (fs := poF ad po ta h h2 re g o g2 o2 ik fp kb an sc tr) X hK hP fX12_count_47 h_po m_po rfl dX12_count_133 ?_
    refine q_get (v := .int sk) (fs := logF ad o ak sk) X hK hP fX12_count_146 h_o m_o rfl dX12_count_136 ?_
    exact q_iret hb hx hr hlocks (by rw [s_X12_count, if_neg c_1_0, if_neg c_1_1, if_neg c_1_2, if_neg c_1_3, if_neg c_1_4, if_neg c_1_5, if_neg c_1_6, if_neg c_1_7, if_pos c_1_8]) dX12_count_139
  by_cases c_1_9 : x = 9
  · refine lv_tableIn (off := 139) (tgt := 140) hx hb dX12_count_1 (by rw [c_1_9]; decide) (by rw [c_1_9]; decide) (by rw [c_1_9]; decide) (by decide) ?_
    refine lv_aload_n hx hb dX12_count_140 rfl (lv_at hl 0 rfl) ?_
    refine q_get (v := .ref (ad ta)) (fs := poF ad po ta h h2 re g o g2 o2 ik fp kb an sc tr) X hK hP fX12_count_12 h_po m_po rfl dX12_count_141 ?_
    refine q_get (v := .int ln) (fs := tapeF ad ta ln en nx pl kd nu wo) X hK hP fX12_count_89 h_ta m_ta rfl dX12_count_144 ?_
    exact q_iret hb hx hr hlocks (by rw [s_X12_count, if_neg c_1_0, if_neg c_1_1, if_neg c_1_2, if_neg c_1_3, if_neg c_1_4, if_neg c_1_5, if_neg c_1_6, if_neg c_1_7, if_neg c_1_8, if_pos c_1_9]) dX12_count_147
  by_cases c_1_10 : x = 10
  · refine lv_tableIn (off := 147) (tgt := 148) hx hb dX12_count_1 (by rw [c_1_10]; decide) (by rw [c_1_10]; decide) (by rw [c_1_10]; decide) (by decide) ?_
    refine lv_aload_n hx hb dX12_count_148 rfl (lv_at hl 0 rfl) ?_
    refine q_get (v := .ref (ad o)) (fs := poF ad po ta h h2 re g o g2 o2 ik fp kb an sc tr) X hK hP fX12_count_47 h_po m_po rfl dX12_count_149 ?_
    refine q_get (v := .ref (ad (o + 5))) (fs := logF ad o ak sk) X hK hP fX12_count_149 h_o m_o rfl dX12_count_152 ?_
    refine lv_iload_n hx hb dX12_count_155 rfl (lv_at hl 1 rfl) ?_
    refine lv_bipush (v := 10) hx hb dX12_count_156 (by decide) ?_
    refine lv_isub hx hb dX12_count_158 ?_
    refine q_rdV (As := [.int (x - 10)]) (rest := []) (c_X8_at l D cB cI cJ ad n M (o + 5) (o + 6) 3 1 tf2 (x - 10) h_o_5 h_o_6 m_o_5 m_o_6 (by decide)) X hK hP hS hl.1 rfl gX12_count_X8_at yd_X8_at ⟨Nat.le_of_ble_eq_true rfl, Nat.le_of_ble_eq_true rfl⟩ h_o_5 m_o_5 (ci := 8) rfl rfl (Nat.le_of_ble_eq_true rfl) ⟨Nat.zero_le _, Nat.zero_le _⟩ dX12_count_159 ?_
    exact q_iret hb hx hr hlocks (by rw [s_X12_count, if_neg c_1_0, if_neg c_1_1, if_neg c_1_2, if_neg c_1_3, if_neg c_1_4, if_neg c_1_5, if_neg c_1_6, if_neg c_1_7, if_neg c_1_8, if_neg c_1_9, if_pos c_1_10]) dX12_count_162
  by_cases c_1_11 : x = 11
  · refine lv_tableIn (off := 147) (tgt := 148) hx hb dX12_count_1 (by rw [c_1_11]; decide) (by rw [c_1_11]; decide) (by rw [c_1_11]; decide) (by decide) ?_
    refine lv_aload_n hx hb dX12_count_148 rfl (lv_at hl 0 rfl) ?_
    refine q_get (v := .ref (ad o)) (fs := poF ad po ta h h2 re g o g2 o2 ik fp kb an sc tr) X hK hP fX12_count_47 h_po m_po rfl dX12_count_149 ?_
    refine q_get (v := .ref (ad (o + 5))) (fs := logF ad o ak sk) X hK hP fX12_count_149 h_o m_o rfl dX12_count_152 ?_
    refine lv_iload_n hx hb dX12_count_155 rfl (lv_at hl 1 rfl) ?_
    refine lv_bipush (v := 10) hx hb dX12_count_156 (by decide) ?_
    refine lv_isub hx hb dX12_count_158 ?_
    refine q_rdV (As := [.int (x - 10)]) (rest := []) (c_X8_at l D cB cI cJ ad n M (o + 5) (o + 6) 3 1 tf2 (x - 10) h_o_5 h_o_6 m_o_5 m_o_6 (by decide)) X hK hP hS hl.1 rfl gX12_count_X8_at yd_X8_at ⟨Nat.le_of_ble_eq_true rfl, Nat.le_of_ble_eq_true rfl⟩ h_o_5 m_o_5 (ci := 8) rfl rfl (Nat.le_of_ble_eq_true rfl) ⟨Nat.zero_le _, Nat.zero_le _⟩ dX12_count_159 ?_
    exact q_iret hb hx hr hlocks (by rw [s_X12_count, if_neg c_1_0, if_neg c_1_1, if_neg c_1_2, if_neg c_1_3, if_neg c_1_4, if_neg c_1_5, if_neg c_1_6, if_neg c_1_7, if_neg c_1_8, if_neg c_1_9, if_neg c_1_10, if_pos c_1_11]) dX12_count_162
  by_cases c_1_12 : x = 12
  · refine lv_tableIn (off := 147) (tgt := 148) hx hb dX12_count_1 (by rw [c_1_12]; decide) (by rw [c_1_12]; decide) (by rw [c_1_12]; decide) (by decide) ?_
    refine lv_aload_n hx hb dX12_count_148 rfl (lv_at hl 0 rfl) ?_
    refine q_get (v := .ref (ad o)) (fs := poF ad po ta h h2 re g o g2 o2 ik fp kb an sc tr) X hK hP fX12_count_47 h_po m_po rfl dX12_count_149 ?_
    refine q_get (v := .ref (ad (o + 5))) (fs := logF ad o ak sk) X hK hP fX12_count_149 h_o m_o rfl dX12_count_152 ?_
    refine lv_iload_n hx hb dX12_count_155 rfl (lv_at hl 1 rfl) ?_
    refine lv_bipush (v := 10) hx hb dX12_count_156 (by decide) ?_
    refine lv_isub hx hb dX12_count_158 ?_
    refine q_rdV (As := [.int (x - 10)]) (rest := []) (c_X8_at l D cB cI cJ ad n M (o + 5) (o + 6) 3 1 tf2 (x - 10) h_o_5 h_o_6 m_o_5 m_o_6 (by decide)) X hK hP hS hl.1 rfl gX12_count_X8_at yd_X8_at ⟨Nat.le_of_ble_eq_true rfl, Nat.le_of_ble_eq_true rfl⟩ h_o_5 m_o_5 (ci := 8) rfl rfl (Nat.le_of_ble_eq_true rfl) ⟨Nat.zero_le _, Nat.zero_le _⟩ dX12_count_159 ?_
    exact q_iret hb hx hr hlocks (by rw [s_X12_count, if_neg c_1_0, if_neg c_1_1, if_neg c_1_2, if_neg c_1_3, if_neg c_1_4, if_neg c_1_5, if_neg c_1_6, if_neg c_1_7, if_neg c_1_8, if_neg c_1_9, if_neg c_1_10, if_neg c_1_11, if_pos c_1_12]) dX12_count_162
  have n_0 := lv_neT (a := 0) c_1_0 (by decide); have n_1 := lv_neT (a := 1) c_1_1 (by decide); have n_2 := lv_neT (a := 2) c_1_2 (by decide); have n_3 := lv_neT (a := 3) c_1_3 (by decide); have n_4 := lv_neT (a := 4) c_1_4 (by decide); have n_5 := lv_neT (a := 5) c_1_5 (by decide); have n_6 := lv_neT (a := 6) c_1_6 (by decide); have n_7 := lv_neT (a := 7) c_1_7 (by decide); have n_8 := lv_neT (a := 8) c_1_8 (by decide); have n_9 := lv_neT (a := 9) c_1_9 (by decide); have n_10 := lv_neT (a := 10) c_1_10 (by decide); have n_11 := lv_neT (a := 11) c_1_11 (by decide); have n_12 := lv_neT (a := 12) c_1_12 (by decide)
  have g9 := sw_in (a := 13) gw0 gw1 (by decide); exfalso; omega
set_option maxRecDepth 20000 in
theorem fX12_person_40 : FL wsX12_person RX12 40 11 4 := ⟨RX12, TX12, 14, rfl, by decide +kernel, by decide, by decide +kernel⟩
theorem yd_X7_sizesOn : YD yX7_sizesOn 1 := ⟨by decide +kernel, by decide +kernel, by decide +kernel⟩
set_option maxRecDepth 20000 in
theorem fX12_person_19 : FL wsX12_person RX12 19 11 1 := ⟨RX12, TX12, 14, rfl, by decide +kernel, by decide, by decide +kernel⟩
set_option maxRecDepth 20000 in
theorem fX12_person_179 : FL wsX12_person RX12 179 0 0 := ⟨RX0, TX0, 12, rfl, by decide +kernel, by decide, by decide +kernel⟩
def s_X12_person (nt : Nat) (nc : Nat) (pf : Nat → Int32) (cf : Nat → Int32) (tf : Nat → Int32) (plf : Nat → Int32) (x : Int32) (y : Int32) : Int32 := if y = 3 then (heS nt tf plf x) else if y = 4 then (soS nt tf plf x) else if y = 5 then if (hkS nt tf (hsS nt cf plf x (-1) nc) 5) = 0 then 0 else 1 else (tat 12 pf (x * 3 + y))
set_option maxHeartbeats 4000000 in
set_option maxRecDepth 100000 in
theorem c_X12_person (l : Launch) (D : va_G) (cB cI cJ : ClassId) (ad : Nat → Nat) (n : Nat) (M : Nat → va_E) (po ta h h2 re g o g2 o2 kb an sc tr : Nat) (ik fp : Int32) (nt nc : Nat) (op : Int32) (hv pf cf tf plf : Nat → Int32) (x y : Int32) (h_po : po < n) (h_g : g < n) (h_g_1 : g + 1 < n) (h_g_2 : g + 2 < n) (h_h : h < n) (h_h_5 : h + 5 < n) (h_h_6 : h + 6 < n) (h_h_3 : h + 3 < n) (h_h_4 : h + 4 < n) (h_h_1 : h + 1 < n) (h_h_2 : h + 2 < n) (m_po : M po = .inr (11, poF ad po ta h h2 re g o g2 o2 ik fp kb an sc tr)) (m_g : M g = .inr (7, standF ad g h op)) (m_g_1 : M (g + 1) = .inr (8, [.int 1, .ref (ad (g + 2))])) (m_g_2 : M (g + 2) = .inl (cI, 12, .inl plf)) (m_h : M h = .inr (0, hallF ad h hv)) (m_h_5 : M (h + 5) = .inr (8, [.int 7, .ref (ad (h + 6))])) (m_h_6 : M (h + 6) = .inl (cI, 84, .inl tf)) (m_h_3 : M (h + 3) = .inr (8, [.int 5, .ref (ad (h + 4))])) (m_h_4 : M (h + 4) = .inl (cI, 25, .inl cf)) (m_h_1 : M (h + 1) = .inr (8, [.int 3, .ref (ad (h + 2))])) (m_h_2 : M (h + 2) = .inl (cI, 12, .inl pf)) (h7 : hv 7 = nI nt) (hnt : nt ≤ 12) (h6 : hv 6 = nI nc) (hnc : nc ≤ 5) (gx0 : ¬ x < 0) (gx1 : x < (hv 5)) (gw0 : ¬ y < 0) (gw1 : y < 6) : cR l D cB cI cJ ad n M yX12_person wsX12_person 4 92 [.ref (ad po), .int x, .int y] (s_X12_person nt nc pf cf tf plf x y) := by
  refine q_body (cc := cX12_person) (maxL := 3) (ret := (some .int)) (by decide) rfl (Nat.le_of_ble_eq_true rfl) ?_
  intro p e s m args below meth c ls X hr hlocks hK hP hl
  obtain ⟨hx, hb, hml, hown, hts⟩ := id X
  have hS : va_S (ipA ad n) s.heap s.heap [] := va_S.rf
  have hl : lv_has ls 3 [(0, .ref (ad po)), (1, .int x), (2, .int y)] := hl
  refine lv_aload_n hx hb dX12_person_0 rfl (lv_at hl 0 rfl) ?_
  refine lv_iload_n hx hb dX12_person_1 rfl (lv_at hl 1 rfl) ?_
  refine q_rdVv (As := [.int x]) (rest := []) (c_X12_needPerson l D cB cI cJ ad n M po ta h h2 re g o g2 o2 kb an sc tr ik fp hv x h_po h_h m_po m_h gx0 gx1) X hK hP hS hl.1 rfl gX12_person_X12_needPerson yd_X12_needPerson ⟨Nat.le_of_ble_eq_true rfl, Nat.le_of_ble_eq_true rfl⟩ h_po m_po (ci := 11) rfl rfl (Nat.le_of_ble_eq_true rfl) ⟨Nat.zero_le _, Nat.zero_le _⟩ dX12_person_2 ?_
  refine lv_iload_n hx hb dX12_person_5 rfl (lv_at hl 2 rfl) ?_
  refine lv_bipush (v := 6) hx hb dX12_person_6 (by decide) ?_
  refine q_rdSv (As := [.int y, .int 6]) (rest := []) (c_X12_needWhat l D cB cI cJ ad n M y 6   gw0 gw1) X hK hP hS hl.1 rfl gX12_person_X12_needWhat yd_X12_needWhat ⟨Nat.le_of_ble_eq_true rfl, Nat.le_of_ble_eq_true rfl⟩ rfl (Nat.le_of_ble_eq_true rfl) ⟨Nat.zero_le _, Nat.zero_le _⟩ dX12_person_8 ?_
  refine lv_iload_n hx hb dX12_person_11 rfl (lv_at hl 2 rfl) ?_
  by_cases c_12_0 : y = 3
  · refine lv_tableIn (off := 28) (tgt := 40) hx hb dX12_person_12 (by rw [c_12_0]; decide) (by rw [c_12_0]; decide) (by rw [c_12_0]; decide) (by decide) ?_
    refine lv_aload_n hx hb dX12_person_40 rfl (lv_at hl 0 rfl) ?_
    refine q_get (v := .ref (ad g)) (fs := poF ad po ta h h2 re g o g2 o2 ik fp kb an sc tr) X hK hP fX12_person_40 h_po m_po rfl dX12_person_41 ?_
    refine lv_iload_n hx hb dX12_person_44 rfl (lv_at hl 1 rfl) ?_
    refine q_rdV (As := [.int x]) (rest := []) (c_X7_heatOn l D cB cI cJ ad n M g h nt op hv tf plf x h_g h_g_1 h_g_2 h_h h_h_5 h_h_6 m_g m_g_1 m_g_2 m_h m_h_5 m_h_6 h7 hnt) X hK hP hS hl.1 rfl gX12_person_X7_heatOn yd_X7_heatOn ⟨Nat.le_of_ble_eq_true rfl, Nat.le_of_ble_eq_true rfl⟩ h_g m_g (ci := 7) rfl rfl (Nat.le_of_ble_eq_true rfl) ⟨Nat.zero_le _, Nat.zero_le _⟩ dX12_person_45 ?_
    exact q_iret hb hx hr hlocks (by rw [s_X12_person, if_pos c_12_0]) dX12_person_48
  by_cases c_12_1 : y = 4
  · refine lv_tableIn (off := 37) (tgt := 49) hx hb dX12_person_12 (by rw [c_12_1]; decide) (by rw [c_12_1]; decide) (by rw [c_12_1]; decide) (by decide) ?_
    refine lv_aload_n hx hb dX12_person_49 rfl (lv_at hl 0 rfl) ?_
    refine q_get (v := .ref (ad g)) (fs := poF ad po ta h h2 re g o g2 o2 ik fp kb an sc tr) X hK hP fX12_person_40 h_po m_po rfl dX12_person_50 ?_
    refine lv_iload_n hx hb dX12_person_53 rfl (lv_at hl 1 rfl) ?_
    refine q_rdV (As := [.int x]) (rest := []) (c_X7_sizesOn l D cB cI cJ ad n M g h nt op hv tf plf x h_g h_g_1 h_g_2 h_h h_h_5 h_h_6 m_g m_g_1 m_g_2 m_h m_h_5 m_h_6 h7 hnt) X hK hP hS hl.1 rfl gX12_person_X7_sizesOn yd_X7_sizesOn ⟨Nat.le_of_ble_eq_true rfl, Nat.le_of_ble_eq_true rfl⟩ h_g m_g (ci := 7) rfl rfl (Nat.le_of_ble_eq_true rfl) ⟨Nat.zero_le _, Nat.zero_le _⟩ dX12_person_54 ?_
    exact q_iret hb hx hr hlocks (by rw [s_X12_person, if_neg c_12_0, if_pos c_12_1]) dX12_person_57
  by_cases c_12_2 : y = 5
  · refine lv_tableIn (off := 46) (tgt := 58) hx hb dX12_person_12 (by rw [c_12_2]; decide) (by rw [c_12_2]; decide) (by rw [c_12_2]; decide) (by decide) ?_
    refine lv_aload_n hx hb dX12_person_58 rfl (lv_at hl 0 rfl) ?_
    refine q_get (v := .ref (ad g)) (fs := poF ad po ta h h2 re g o g2 o2 ik fp kb an sc tr) X hK hP fX12_person_40 h_po m_po rfl dX12_person_59 ?_
    refine lv_iload_n hx hb dX12_person_62 rfl (lv_at hl 1 rfl) ?_
    refine lv_iconst (v := (-1)) hx hb dX12_person_63 (by decide) ?_
    refine q_rdV (As := [.int x, .int (-1)]) (rest := []) (c_X7_hasShirt l D cB cI cJ ad n M g h nt nc op hv cf tf plf x (-1) h_g h_g_1 h_g_2 h_h h_h_5 h_h_6 h_h_3 h_h_4 m_g m_g_1 m_g_2 m_h m_h_5 m_h_6 m_h_3 m_h_4 h7 hnt h6 hnc) X hK hP hS hl.1 rfl gX12_person_X7_hasShirt yd_X7_hasShirt ⟨Nat.le_of_ble_eq_true rfl, Nat.le_of_ble_eq_true rfl⟩ h_g m_g (ci := 7) rfl rfl (Nat.le_of_ble_eq_true rfl) ⟨Nat.zero_le _, Nat.zero_le _⟩ dX12_person_64 ?_
    refine lv_if_eq (tgt := 74) hx hb dX12_person_67 (by decide) (fun c_67 => ?_) (fun c_67 => ?_)
    · skip
      refine lv_iconst (v := 0) hx hb dX12_person_74 (by decide) ?_
      exact q_iret hb hx hr hlocks (by rw [s_X12_person, if_neg c_12_0, if_neg c_12_1, if_pos c_12_2, if_pos c_67]) dX12_person_75
    · skip
      refine lv_iconst (v := 1) hx hb dX12_person_70 (by decide) ?_
      refine lv_goto (tgt := 75) hx hb dX12_person_71 (by decide) ?_
      exact q_iret hb hx hr hlocks (by rw [s_X12_person, if_neg c_12_0, if_neg c_12_1, if_pos c_12_2, if_neg c_67]) dX12_person_75
  have n_0 := lv_neT (a := 3) c_12_0 (by decide); have n_1 := lv_neT (a := 4) c_12_1 (by decide); have n_2 := lv_neT (a := 5) c_12_2 (by decide)
  refine lv_tableOut (tgt := 76) hx hb dX12_person_12 (by omega) (by decide) ?_
  refine lv_aload_n hx hb dX12_person_76 rfl (lv_at hl 0 rfl) ?_
  refine q_get (v := .ref (ad h)) (fs := poF ad po ta h h2 re g o g2 o2 ik fp kb an sc tr) X hK hP fX12_person_19 h_po m_po rfl dX12_person_77 ?_
  refine q_get (v := .ref (ad (h + 1))) (fs := hallF ad h hv) X hK hP fX12_person_179 h_h m_h rfl dX12_person_80 ?_
  refine lv_iload_n hx hb dX12_person_83 rfl (lv_at hl 1 rfl) ?_
  refine lv_iload_n hx hb dX12_person_84 rfl (lv_at hl 2 rfl) ?_
  refine q_rdV (As := [.int x, .int y]) (rest := []) (c_X8_at_ l D cB cI cJ ad n M (h + 1) (h + 2) 12 3 pf x y h_h_1 h_h_2 m_h_1 m_h_2 (by decide)) X hK hP hS hl.1 rfl gX12_person_X8_at_ yd_X8_at_ ⟨Nat.le_of_ble_eq_true rfl, Nat.le_of_ble_eq_true rfl⟩ h_h_1 m_h_1 (ci := 8) rfl rfl (Nat.le_of_ble_eq_true rfl) ⟨Nat.zero_le _, Nat.zero_le _⟩ dX12_person_85 ?_
  exact q_iret hb hx hr hlocks (by rw [s_X12_person, if_neg c_12_0, if_neg c_12_1, if_neg c_12_2]) dX12_person_88
set_option maxRecDepth 20000 in
theorem fX12_box_40 : FL wsX12_box RX12 40 11 4 := ⟨RX12, TX12, 14, rfl, by decide +kernel, by decide, by decide +kernel⟩
theorem yd_X7_sizesIn : YD yX7_sizesIn 1 := ⟨by decide +kernel, by decide +kernel, by decide +kernel⟩
set_option maxRecDepth 20000 in
theorem fX12_box_19 : FL wsX12_box RX12 19 11 1 := ⟨RX12, TX12, 14, rfl, by decide +kernel, by decide, by decide +kernel⟩
set_option maxRecDepth 20000 in
theorem fX12_box_203 : FL wsX12_box RX12 203 0 1 := ⟨RX0, TX0, 12, rfl, by decide +kernel, by decide, by decide +kernel⟩
def s_X12_box (nl : Nat) (nt : Nat) (td : Int32) (cf : Nat → Int32) (tf : Nat → Int32) (rf : Nat → Int32) (plf : Nat → Int32) (x : Int32) (y : Int32) : Int32 := if y = 5 then (wiS nt tf plf x) else if y = 6 then (siS nt tf plf x) else if y = 7 then (ovS nt cf tf plf x) else if y = 8 then (feeS nl rf td (smS tf (taS plf x nt) 1 nt) (tat 25 cf (x * 5 + 1)) (bcI (taS plf x nt)) (tat 25 cf (x * 5 + 4))) else if y = 9 then (taS plf x nt) else (tat 25 cf (x * 5 + y))
set_option maxHeartbeats 4000000 in
set_option maxRecDepth 100000 in
theorem c_X12_box (l : Launch) (D : va_G) (cB cI cJ : ClassId) (ad : Nat → Nat) (n : Nat) (M : Nat → va_E) (hI : ipI ad n) (po ta h h2 re g o g2 o2 kb an sc tr : Nat) (ik fp : Int32) (nl nt : Nat) (op td hg : Int32) (hv cf tf rf vf sf plf : Nat → Int32) (x y : Int32) (h_po : po < n) (h_g : g < n) (h_h : h < n) (h_h_3 : h + 3 < n) (h_h_4 : h + 4 < n) (h_h_5 : h + 5 < n) (h_h_6 : h + 6 < n) (h_h_9 : h + 9 < n) (h_h_10 : h + 10 < n) (h_h_11 : h + 11 < n) (h_h_12 : h + 12 < n) (h_h_13 : h + 13 < n) (h_h_14 : h + 14 < n) (h_h_15 : h + 15 < n) (h_g_1 : g + 1 < n) (h_g_2 : g + 2 < n) (m_po : M po = .inr (11, poF ad po ta h h2 re g o g2 o2 ik fp kb an sc tr)) (m_g : M g = .inr (7, standF ad g h op)) (m_h : M h = .inr (0, hallF ad h hv)) (m_h_3 : M (h + 3) = .inr (8, [.int 5, .ref (ad (h + 4))])) (m_h_4 : M (h + 4) = .inl (cI, 25, .inl cf)) (m_h_5 : M (h + 5) = .inr (8, [.int 7, .ref (ad (h + 6))])) (m_h_6 : M (h + 6) = .inl (cI, 84, .inl tf)) (m_h_9 : M (h + 9) = .inr (5, ruleF ad (h + 9) (nI nl) td hg)) (m_h_10 : M (h + 10) = .inr (8, [.int 1, .ref (ad (h + 9 + 2))])) (m_h_11 : M (h + 11) = .inl (cI, 700, .inl rf)) (m_h_12 : M (h + 12) = .inr (8, [.int 1, .ref (ad (h + 9 + 4))])) (m_h_13 : M (h + 13) = .inl (cI, 5, .inl vf)) (m_h_14 : M (h + 14) = .inr (8, [.int 1, .ref (ad (h + 9 + 6))])) (m_h_15 : M (h + 15) = .inl (cI, 31, .inl sf)) (m_g_1 : M (g + 1) = .inr (8, [.int 1, .ref (ad (g + 2))])) (m_g_2 : M (g + 2) = .inl (cI, 12, .inl plf)) (h7 : hv 7 = nI nt) (hnt : nt ≤ 12) (hnl : nl ≤ 700) (hOK : ruleOK nl rf td) (hgh : g + 2 < h ∨ h + 15 < g) (hph : po < h ∨ h + 15 < po) (gx0 : ¬ x < 0) (gx1 : x < (hv 6)) (gw0 : ¬ y < 0) (gw1 : y < 10) : cWi l D cB cI cJ ad n M yX12_box wsX12_box 5 112 [.ref (ad po), .int x, .int y] (fun r M' => ∃ (v0__ : Int32) (v1__ : Nat → Int32) (v2__ : Nat → Int32), r = s_X12_box nl nt td cf tf rf plf x y ∧ M' (h + 9) = .inr (5, ruleF ad (h + 9) (nI nl) td v0__) ∧ M' (h + 13) = .inl (cI, 5, .inl v1__) ∧ M' (h + 15) = .inl (cI, 31, .inl v2__) ∧ ∀ q : Nat, q ≠ h + 9 → q ≠ h + 13 → q ≠ h + 15 → M' q = M q) := by
  refine q_body (cc := cX12_box) (maxL := 3) (ret := (some .int)) (by decide) rfl (Nat.le_of_ble_eq_true rfl) ?_
  intro p e s m args below meth c ls X hr hlocks hK hP hl
  obtain ⟨hx, hb, hml, hown, hts⟩ := id X
  have hS : va_S (ipA ad n) s.heap s.heap [] := va_S.rf
  have hl : lv_has ls 3 [(0, .ref (ad po)), (1, .int x), (2, .int y)] := hl
  refine lv_aload_n hx hb dX12_box_0 rfl (lv_at hl 0 rfl) ?_
  refine lv_iload_n hx hb dX12_box_1 rfl (lv_at hl 1 rfl) ?_
  refine q_rdVv (As := [.int x]) (rest := []) (c_X12_needCase l D cB cI cJ ad n M po ta h h2 re g o g2 o2 kb an sc tr ik fp hv x h_po h_h m_po m_h gx0 gx1) X hK hP hS hl.1 rfl gX12_box_X12_needCase yd_X12_needCase ⟨Nat.le_of_ble_eq_true rfl, Nat.le_of_ble_eq_true rfl⟩ h_po m_po (ci := 11) rfl rfl (Nat.le_of_ble_eq_true rfl) ⟨Nat.zero_le _, Nat.zero_le _⟩ dX12_box_2 ?_
  refine lv_iload_n hx hb dX12_box_5 rfl (lv_at hl 2 rfl) ?_
  refine lv_bipush (v := 10) hx hb dX12_box_6 (by decide) ?_
  refine q_rdSv (As := [.int y, .int 10]) (rest := []) (c_X12_needWhat l D cB cI cJ ad n M y 10   gw0 gw1) X hK hP hS hl.1 rfl gX12_box_X12_needWhat yd_X12_needWhat ⟨Nat.le_of_ble_eq_true rfl, Nat.le_of_ble_eq_true rfl⟩ rfl (Nat.le_of_ble_eq_true rfl) ⟨Nat.zero_le _, Nat.zero_le _⟩ dX12_box_8 ?_
  refine lv_iload_n hx hb dX12_box_11 rfl (lv_at hl 2 rfl) ?_
  by_cases c_12_0 : y = 5
  · refine lv_tableIn (off := 36) (tgt := 48) hx hb dX12_box_12 (by rw [c_12_0]; decide) (by rw [c_12_0]; decide) (by rw [c_12_0]; decide) (by decide) ?_
    refine lv_aload_n hx hb dX12_box_48 rfl (lv_at hl 0 rfl) ?_
    refine q_get (v := .ref (ad g)) (fs := poF ad po ta h h2 re g o g2 o2 ik fp kb an sc tr) X hK hP fX12_box_40 h_po m_po rfl dX12_box_49 ?_
    refine lv_iload_n hx hb dX12_box_52 rfl (lv_at hl 1 rfl) ?_
    refine q_rdV (As := [.int x]) (rest := []) (c_X7_weightIn l D cB cI cJ ad n M g h nt op hv tf plf x h_g h_g_1 h_g_2 h_h h_h_5 h_h_6 m_g m_g_1 m_g_2 m_h m_h_5 m_h_6 h7 hnt) X hK hP hS hl.1 rfl gX12_box_X7_weightIn yd_X7_weightIn ⟨Nat.le_of_ble_eq_true rfl, Nat.le_of_ble_eq_true rfl⟩ h_g m_g (ci := 7) rfl rfl (Nat.le_of_ble_eq_true rfl) ⟨Nat.zero_le _, Nat.zero_le _⟩ dX12_box_53 ?_
    exact q_wzret X hr hlocks hP hS (rfl) ⟨_, _, _, (by rw [s_X12_box, if_pos c_12_0]), m_h_9, m_h_13, m_h_15, (fun q n0 n1 n2 => rfl)⟩ dX12_box_56
  by_cases c_12_1 : y = 6
  · refine lv_tableIn (off := 45) (tgt := 57) hx hb dX12_box_12 (by rw [c_12_1]; decide) (by rw [c_12_1]; decide) (by rw [c_12_1]; decide) (by decide) ?_
    refine lv_aload_n hx hb dX12_box_57 rfl (lv_at hl 0 rfl) ?_
    refine q_get (v := .ref (ad g)) (fs := poF ad po ta h h2 re g o g2 o2 ik fp kb an sc tr) X hK hP fX12_box_40 h_po m_po rfl dX12_box_58 ?_
    refine lv_iload_n hx hb dX12_box_61 rfl (lv_at hl 1 rfl) ?_
    refine q_rdV (As := [.int x]) (rest := []) (c_X7_sizesIn l D cB cI cJ ad n M g h nt op hv tf plf x h_g h_g_1 h_g_2 h_h h_h_5 h_h_6 m_g m_g_1 m_g_2 m_h m_h_5 m_h_6 h7 hnt) X hK hP hS hl.1 rfl gX12_box_X7_sizesIn yd_X7_sizesIn ⟨Nat.le_of_ble_eq_true rfl, Nat.le_of_ble_eq_true rfl⟩ h_g m_g (ci := 7) rfl rfl (Nat.le_of_ble_eq_true rfl) ⟨Nat.zero_le _, Nat.zero_le _⟩ dX12_box_62 ?_
    exact q_wzret X hr hlocks hP hS (rfl) ⟨_, _, _, (by rw [s_X12_box, if_neg c_12_0, if_pos c_12_1]), m_h_9, m_h_13, m_h_15, (fun q n0 n1 n2 => rfl)⟩ dX12_box_65
  by_cases c_12_2 : y = 7
  · refine lv_tableIn (off := 54) (tgt := 66) hx hb dX12_box_12 (by rw [c_12_2]; decide) (by rw [c_12_2]; decide) (by rw [c_12_2]; decide) (by decide) ?_
    refine lv_aload_n hx hb dX12_box_66 rfl (lv_at hl 0 rfl) ?_
    refine q_get (v := .ref (ad g)) (fs := poF ad po ta h h2 re g o g2 o2 ik fp kb an sc tr) X hK hP fX12_box_40 h_po m_po rfl dX12_box_67 ?_
    refine lv_iload_n hx hb dX12_box_70 rfl (lv_at hl 1 rfl) ?_
    refine q_rdV (As := [.int x]) (rest := []) (c_X7_overIn l D cB cI cJ ad n M g h nt op hv cf tf plf x h_g h_g_1 h_g_2 h_h h_h_5 h_h_6 h_h_3 h_h_4 m_g m_g_1 m_g_2 m_h m_h_5 m_h_6 m_h_3 m_h_4 h7 hnt) X hK hP hS hl.1 rfl gX12_box_X7_overIn yd_X7_overIn ⟨Nat.le_of_ble_eq_true rfl, Nat.le_of_ble_eq_true rfl⟩ h_g m_g (ci := 7) rfl rfl (Nat.le_of_ble_eq_true rfl) ⟨Nat.zero_le _, Nat.zero_le _⟩ dX12_box_71 ?_
    exact q_wzret X hr hlocks hP hS (rfl) ⟨_, _, _, (by rw [s_X12_box, if_neg c_12_0, if_neg c_12_1, if_pos c_12_2]), m_h_9, m_h_13, m_h_15, (fun q n0 n1 n2 => rfl)⟩ dX12_box_74
  by_cases c_12_3 : y = 8
  · refine lv_tableIn (off := 63) (tgt := 75) hx hb dX12_box_12 (by rw [c_12_3]; decide) (by rw [c_12_3]; decide) (by rw [c_12_3]; decide) (by decide) ?_
    refine lv_aload_n hx hb dX12_box_75 rfl (lv_at hl 0 rfl) ?_
    refine q_get (v := .ref (ad g)) (fs := poF ad po ta h h2 re g o g2 o2 ik fp kb an sc tr) X hK hP fX12_box_40 h_po m_po rfl dX12_box_76 ?_
    refine lv_iload_n hx hb dX12_box_79 rfl (lv_at hl 1 rfl) ?_
    refine q_wrVi (As := [.int x]) (rest := []) (c_X7_feeOf l D cB cI cJ ad n M hI g h nl nt op td hg hv cf tf rf vf sf plf x h_g h_h h_h_3 h_h_4 h_h_5 h_h_6 h_h_9 h_h_10 h_h_11 h_h_12 h_h_13 h_h_14 h_h_15 h_g_1 h_g_2 m_g m_h m_h_3 m_h_4 m_h_5 m_h_6 m_h_9 m_h_10 m_h_11 m_h_12 m_h_13 m_h_14 m_h_15 m_g_1 m_g_2 h7 hnt hnl hOK) X hK hP hS hl.1 rfl gX12_box_X7_feeOf yd_X7_feeOf ⟨Nat.le_of_ble_eq_true rfl, Nat.le_of_ble_eq_true rfl⟩ h_g m_g (ci := 7) rfl rfl (Nat.le_of_ble_eq_true rfl) ⟨Nat.zero_le _, Nat.zero_le _⟩ dX12_box_80 (fun r3 M2 H locs hp1 hP hS => ?_)
    obtain ⟨vf2_4, sf2_5, hg2_6, rfl, g7, g8, g9, fr10⟩ := hp1
    exact q_wzret X hr hlocks hP hS (rfl) ⟨_, _, _, (by rw [s_X12_box, if_neg c_12_0, if_neg c_12_1, if_neg c_12_2, if_pos c_12_3]), g9, g7, g8, (fun q n0 n1 n2 => (fr10 q n1 n2 n0))⟩ dX12_box_83
  by_cases c_12_4 : y = 9
  · refine lv_tableIn (off := 72) (tgt := 84) hx hb dX12_box_12 (by rw [c_12_4]; decide) (by rw [c_12_4]; decide) (by rw [c_12_4]; decide) (by decide) ?_
    refine lv_aload_n hx hb dX12_box_84 rfl (lv_at hl 0 rfl) ?_
    refine q_get (v := .ref (ad g)) (fs := poF ad po ta h h2 re g o g2 o2 ik fp kb an sc tr) X hK hP fX12_box_40 h_po m_po rfl dX12_box_85 ?_
    refine lv_iload_n hx hb dX12_box_88 rfl (lv_at hl 1 rfl) ?_
    refine q_rdV (As := [.int x]) (rest := []) (c_X7_thingsAt l D cB cI cJ ad n M g h nt op hv plf x h_g h_g_1 h_g_2 h_h m_g m_g_1 m_g_2 m_h h7 hnt) X hK hP hS hl.1 rfl gX12_box_X7_thingsAt yd_X7_thingsAt ⟨Nat.le_of_ble_eq_true rfl, Nat.le_of_ble_eq_true rfl⟩ h_g m_g (ci := 7) rfl rfl (Nat.le_of_ble_eq_true rfl) ⟨Nat.zero_le _, Nat.zero_le _⟩ dX12_box_89 ?_
    exact q_wzret X hr hlocks hP hS (rfl) ⟨_, _, _, (by rw [s_X12_box, if_neg c_12_0, if_neg c_12_1, if_neg c_12_2, if_neg c_12_3, if_pos c_12_4]), m_h_9, m_h_13, m_h_15, (fun q n0 n1 n2 => rfl)⟩ dX12_box_92
  have n_0 := lv_neT (a := 5) c_12_0 (by decide); have n_1 := lv_neT (a := 6) c_12_1 (by decide); have n_2 := lv_neT (a := 7) c_12_2 (by decide); have n_3 := lv_neT (a := 8) c_12_3 (by decide); have n_4 := lv_neT (a := 9) c_12_4 (by decide)
  refine lv_tableOut (tgt := 93) hx hb dX12_box_12 (by omega) (by decide) ?_
  refine lv_aload_n hx hb dX12_box_93 rfl (lv_at hl 0 rfl) ?_
  refine q_get (v := .ref (ad h)) (fs := poF ad po ta h h2 re g o g2 o2 ik fp kb an sc tr) X hK hP fX12_box_19 h_po m_po rfl dX12_box_94 ?_
  refine q_get (v := .ref (ad (h + 3))) (fs := hallF ad h hv) X hK hP fX12_box_203 h_h m_h rfl dX12_box_97 ?_
  refine lv_iload_n hx hb dX12_box_100 rfl (lv_at hl 1 rfl) ?_
  refine lv_iload_n hx hb dX12_box_101 rfl (lv_at hl 2 rfl) ?_
  refine q_rdV (As := [.int x, .int y]) (rest := []) (c_X8_at_ l D cB cI cJ ad n M (h + 3) (h + 4) 25 5 cf x y h_h_3 h_h_4 m_h_3 m_h_4 (by decide)) X hK hP hS hl.1 rfl gX12_box_X8_at_ yd_X8_at_ ⟨Nat.le_of_ble_eq_true rfl, Nat.le_of_ble_eq_true rfl⟩ h_h_3 m_h_3 (ci := 8) rfl rfl (Nat.le_of_ble_eq_true rfl) ⟨Nat.zero_le _, Nat.zero_le _⟩ dX12_box_102 ?_
  exact q_wzret X hr hlocks hP hS (rfl) ⟨_, _, _, (by rw [s_X12_box, if_neg c_12_0, if_neg c_12_1, if_neg c_12_2, if_neg c_12_3, if_neg c_12_4]), m_h_9, m_h_13, m_h_15, (fun q n0 n1 n2 => rfl)⟩ dX12_box_105
set_option maxRecDepth 20000 in
theorem fX12_thing_40 : FL wsX12_thing RX12 40 11 4 := ⟨RX12, TX12, 14, rfl, by decide +kernel, by decide, by decide +kernel⟩
set_option maxRecDepth 20000 in
theorem fX12_thing_19 : FL wsX12_thing RX12 19 11 1 := ⟨RX12, TX12, 14, rfl, by decide +kernel, by decide, by decide +kernel⟩
set_option maxRecDepth 20000 in
theorem fX12_thing_215 : FL wsX12_thing RX12 215 0 2 := ⟨RX0, TX0, 12, rfl, by decide +kernel, by decide, by decide +kernel⟩
def s_X12_thing (nq : Nat) (tf : Nat → Int32) (qf : Nat → Int32) (plf : Nat → Int32) (x : Int32) (y : Int32) : Int32 := if y = 5 then (tat 12 plf x) else if y = 7 then (prS qf (tat 84 tf (x * 7 + 1)) nq 0) else (tat 84 tf (x * 7 + y))
set_option maxHeartbeats 4000000 in
set_option maxRecDepth 100000 in
theorem c_X12_thing (l : Launch) (D : va_G) (cB cI cJ : ClassId) (ad : Nat → Nat) (n : Nat) (M : Nat → va_E) (po ta h h2 re g o g2 o2 kb an sc tr : Nat) (ik fp : Int32) (nq nt : Nat) (op : Int32) (hv tf qf plf : Nat → Int32) (x y : Int32) (h_po : po < n) (h_g : g < n) (h_g_1 : g + 1 < n) (h_g_2 : g + 2 < n) (h_h : h < n) (h_h_5 : h + 5 < n) (h_h_6 : h + 6 < n) (h_h_7 : h + 7 < n) (h_h_8 : h + 8 < n) (m_po : M po = .inr (11, poF ad po ta h h2 re g o g2 o2 ik fp kb an sc tr)) (m_g : M g = .inr (7, standF ad g h op)) (m_g_1 : M (g + 1) = .inr (8, [.int 1, .ref (ad (g + 2))])) (m_g_2 : M (g + 2) = .inl (cI, 12, .inl plf)) (m_h : M h = .inr (0, hallF ad h hv)) (m_h_5 : M (h + 5) = .inr (8, [.int 7, .ref (ad (h + 6))])) (m_h_6 : M (h + 6) = .inl (cI, 84, .inl tf)) (m_h_7 : M (h + 7) = .inr (8, [.int 2, .ref (ad (h + 8))])) (m_h_8 : M (h + 8) = .inl (cI, 12, .inl qf)) (h8 : hv 8 = nI nq) (hnq : nq ≤ 6) (gx0 : ¬ x < 0) (gx1 : x < (hv 7)) (gw0 : ¬ y < 0) (gw1 : y < 8) : cR l D cB cI cJ ad n M yX12_thing wsX12_thing 2 46 [.ref (ad po), .int x, .int y] (s_X12_thing nq tf qf plf x y) := by
  refine q_body (cc := cX12_thing) (maxL := 3) (ret := (some .int)) (by decide) rfl (Nat.le_of_ble_eq_true rfl) ?_
  intro p e s m args below meth c ls X hr hlocks hK hP hl
  obtain ⟨hx, hb, hml, hown, hts⟩ := id X
  have hS : va_S (ipA ad n) s.heap s.heap [] := va_S.rf
  have hl : lv_has ls 3 [(0, .ref (ad po)), (1, .int x), (2, .int y)] := hl
  refine lv_aload_n hx hb dX12_thing_0 rfl (lv_at hl 0 rfl) ?_
  refine lv_iload_n hx hb dX12_thing_1 rfl (lv_at hl 1 rfl) ?_
  refine q_rdVv (As := [.int x]) (rest := []) (c_X12_needThing l D cB cI cJ ad n M po ta h h2 re g o g2 o2 kb an sc tr ik fp hv x h_po h_h m_po m_h gx0 gx1) X hK hP hS hl.1 rfl gX12_thing_X12_needThing yd_X12_needThing ⟨Nat.le_of_ble_eq_true rfl, Nat.le_of_ble_eq_true rfl⟩ h_po m_po (ci := 11) rfl rfl (Nat.le_of_ble_eq_true rfl) ⟨Nat.zero_le _, Nat.zero_le _⟩ dX12_thing_2 ?_
  refine lv_iload_n hx hb dX12_thing_5 rfl (lv_at hl 2 rfl) ?_
  refine lv_bipush (v := 8) hx hb dX12_thing_6 (by decide) ?_
  refine q_rdSv (As := [.int y, .int 8]) (rest := []) (c_X12_needWhat l D cB cI cJ ad n M y 8   gw0 gw1) X hK hP hS hl.1 rfl gX12_thing_X12_needWhat yd_X12_needWhat ⟨Nat.le_of_ble_eq_true rfl, Nat.le_of_ble_eq_true rfl⟩ rfl (Nat.le_of_ble_eq_true rfl) ⟨Nat.zero_le _, Nat.zero_le _⟩ dX12_thing_8 ?_
  refine lv_iload_n hx hb dX12_thing_11 rfl (lv_at hl 2 rfl) ?_
  by_cases c_12_0 : y = 5
  · refine lv_lookup (off := 28) (tgt := 40) hx hb dX12_thing_12 (by decide) (by rw [c_12_0]; decide) (by decide) ?_
    refine lv_aload_n hx hb dX12_thing_40 rfl (lv_at hl 0 rfl) ?_
    refine q_get (v := .ref (ad g)) (fs := poF ad po ta h h2 re g o g2 o2 ik fp kb an sc tr) X hK hP fX12_thing_40 h_po m_po rfl dX12_thing_41 ?_
    refine lv_iload_n hx hb dX12_thing_44 rfl (lv_at hl 1 rfl) ?_
    refine q_rdV (As := [.int x]) (rest := []) (c_X7_placeOf l D cB cI cJ ad n M g h op plf x h_g h_g_1 h_g_2 m_g m_g_1 m_g_2 ) X hK hP hS hl.1 rfl gX12_thing_X7_placeOf yd_X7_placeOf ⟨Nat.le_of_ble_eq_true rfl, Nat.le_of_ble_eq_true rfl⟩ h_g m_g (ci := 7) rfl rfl (Nat.le_of_ble_eq_true rfl) ⟨Nat.zero_le _, Nat.zero_le _⟩ dX12_thing_45 ?_
    exact q_iret hb hx hr hlocks (by rw [s_X12_thing, if_pos c_12_0]) dX12_thing_48
  by_cases c_12_1 : y = 7
  · refine lv_lookup (off := 37) (tgt := 49) hx hb dX12_thing_12 (by decide) (by rw [c_12_1]; decide) (by decide) ?_
    refine lv_aload_n hx hb dX12_thing_49 rfl (lv_at hl 0 rfl) ?_
    refine q_get (v := .ref (ad h)) (fs := poF ad po ta h h2 re g o g2 o2 ik fp kb an sc tr) X hK hP fX12_thing_19 h_po m_po rfl dX12_thing_50 ?_
    refine lv_iload_n hx hb dX12_thing_53 rfl (lv_at hl 1 rfl) ?_
    refine q_rdV (As := [.int x]) (rest := []) (c_X0_priceOf l D cB cI cJ ad n M h nq hv tf qf x h_h h_h_5 h_h_6 h_h_7 h_h_8 m_h m_h_5 m_h_6 m_h_7 m_h_8 h8 hnq) X hK hP hS hl.1 rfl gX12_thing_X0_priceOf yd_X0_priceOf ⟨Nat.le_of_ble_eq_true rfl, Nat.le_of_ble_eq_true rfl⟩ h_h m_h (ci := 0) rfl rfl (Nat.le_of_ble_eq_true rfl) ⟨Nat.zero_le _, Nat.zero_le _⟩ dX12_thing_54 ?_
    exact q_iret hb hx hr hlocks (by rw [s_X12_thing, if_neg c_12_0, if_pos c_12_1]) dX12_thing_57
  have n_0 := lv_neT (a := 5) c_12_0 (by decide); have n_1 := lv_neT (a := 7) c_12_1 (by decide)
  refine lv_lookup (off := 46) (tgt := 58) hx hb dX12_thing_12 (by decide) (by simp [Op.lookupswitch.offset, Ne.symm n_0, Ne.symm n_1]) (by decide) ?_
  refine lv_aload_n hx hb dX12_thing_58 rfl (lv_at hl 0 rfl) ?_
  refine q_get (v := .ref (ad h)) (fs := poF ad po ta h h2 re g o g2 o2 ik fp kb an sc tr) X hK hP fX12_thing_19 h_po m_po rfl dX12_thing_59 ?_
  refine q_get (v := .ref (ad (h + 5))) (fs := hallF ad h hv) X hK hP fX12_thing_215 h_h m_h rfl dX12_thing_62 ?_
  refine lv_iload_n hx hb dX12_thing_65 rfl (lv_at hl 1 rfl) ?_
  refine lv_iload_n hx hb dX12_thing_66 rfl (lv_at hl 2 rfl) ?_
  refine q_rdV (As := [.int x, .int y]) (rest := []) (c_X8_at_ l D cB cI cJ ad n M (h + 5) (h + 6) 84 7 tf x y h_h_5 h_h_6 m_h_5 m_h_6 (by decide)) X hK hP hS hl.1 rfl gX12_thing_X8_at_ yd_X8_at_ ⟨Nat.le_of_ble_eq_true rfl, Nat.le_of_ble_eq_true rfl⟩ h_h_5 m_h_5 (ci := 8) rfl rfl (Nat.le_of_ble_eq_true rfl) ⟨Nat.zero_le _, Nat.zero_le _⟩ dX12_thing_67 ?_
  exact q_iret hb hx hr hlocks (by rw [s_X12_thing, if_neg c_12_0, if_neg c_12_1]) dX12_thing_70
set_option maxRecDepth 20000 in
theorem fX12_beginAnew_23 : FL wsX12_beginAnew RX12 23 11 2 := ⟨RX12, TX12, 14, rfl, by decide +kernel, by decide, by decide +kernel⟩
set_option maxRecDepth 20000 in
theorem fX12_beginAnew_19 : FL wsX12_beginAnew RX12 19 11 1 := ⟨RX12, TX12, 14, rfl, by decide +kernel, by decide, by decide +kernel⟩
theorem fw_11_2 : FW 11 2 (.object "PoundsOver$Hall") := ⟨RX12, TX12, 14, tyX12, rfl, tyX12_ok, nmX12, by decide, rfl, by decide +kernel⟩
theorem fw_11_1 : FW 11 1 (.object "PoundsOver$Hall") := ⟨RX12, TX12, 14, tyX12, rfl, tyX12_ok, nmX12, by decide, rfl, by decide +kernel⟩
set_option maxRecDepth 20000 in
theorem fX12_beginAnew_40 : FL wsX12_beginAnew RX12 40 11 4 := ⟨RX12, TX12, 14, rfl, by decide +kernel, by decide, by decide +kernel⟩
theorem yd_X7_begin : YD yX7_begin 1 := ⟨by decide +kernel, by decide +kernel, by decide +kernel⟩
set_option maxRecDepth 20000 in
theorem fX12_beginAnew_47 : FL wsX12_beginAnew RX12 47 11 5 := ⟨RX12, TX12, 14, rfl, by decide +kernel, by decide, by decide +kernel⟩
theorem yd_X1_begin : YD yX1_begin 0 := ⟨by decide +kernel, by decide +kernel, by decide +kernel⟩
set_option maxRecDepth 20000 in
theorem fX12_beginAnew_71 : FL wsX12_beginAnew RX12 71 11 11 := ⟨RX12, TX12, 14, rfl, by decide +kernel, by decide, by decide +kernel⟩
theorem yd_X3_begin : YD yX3_begin 0 := ⟨by decide +kernel, by decide +kernel, by decide +kernel⟩
set_option maxRecDepth 20000 in
theorem fX12_beginAnew_118 : FL wsX12_beginAnew RX12 118 11 8 := ⟨RX12, TX12, 14, rfl, by decide +kernel, by decide, by decide +kernel⟩
set_option maxHeartbeats 4000000 in
set_option maxRecDepth 100000 in
theorem c_X12_beginAnew (l : Launch) (D : va_G) (cB cI cJ : ClassId) (ad : Nat → Nat) (n : Nat) (M : Nat → va_E) (hI : ipI ad n) (po ta h h2 re g o g2 o2 kb an sc tr : Nat) (ik fp : Int32) (nt : Nat) (ak sk op tof fk ck : Int32) (h9 : Nat) (hv tf plf : Nat → Int32) (h_po : po < n) (h_g : g < n) (h_g_1 : g + 1 < n) (h_g_2 : g + 2 < n) (h_h2 : h2 < n) (h_h2_5 : h2 + 5 < n) (h_h2_6 : h2 + 6 < n) (h_o : o < n) (h_an : an < n) (m_po : M po = .inr (11, poF ad po ta h h2 re g o g2 o2 ik fp kb an sc tr)) (m_g : M g = .inr (7, standF ad g h9 op)) (m_g_1 : M (g + 1) = .inr (8, [.int 1, .ref (ad (g + 2))])) (m_g_2 : M (g + 2) = .inl (cI, 12, .inl plf)) (m_h2 : M h2 = .inr (0, hallF ad h2 hv)) (m_h2_5 : M (h2 + 5) = .inr (8, [.int 7, .ref (ad (h2 + 6))])) (m_h2_6 : M (h2 + 6) = .inl (cI, 84, .inl tf)) (m_o : M o = .inr (1, logF ad o ak sk)) (m_an : M an = .inr (3, plansF ad an tof fk ck)) (h7 : hv 7 = nI nt) (hnt : nt ≤ 12) (hgh2 : g + 2 < h2 ∨ h2 + 15 < g) (hpo : po < o ∨ o + 6 < po) (hpg : po < g ∨ g + 2 < po) (hpa : po < an ∨ an + 12 < po) (hph2 : po < h2 ∨ h2 + 15 < po) (hog : o + 6 < g ∨ g + 2 < o) (hag : an + 12 < g ∨ g + 2 < an) (hao : an + 12 < o ∨ o + 6 < an) : cWv l D cB cI cJ ad n M yX12_beginAnew wsX12_beginAnew 2 45 [.ref (ad po)] (fun M' => M' g = .inr (7, standF ad g h2 0) ∧ M' (g + 2) = .inl (cI, 12, .inl (bgS plf tf nt)) ∧ M' o = .inr (1, logF ad o 0 0) ∧ M' an = .inr (3, plansF ad an tof 0 0) ∧ M' po = .inr (11, poF ad po ta h2 h re g o g2 o2 0 fp kb an sc tr) ∧ ∀ q : Nat, q ≠ g → q ≠ g + 2 → q ≠ o → q ≠ an → q ≠ po → M' q = M q) := by
  refine q_body (cc := cX12_beginAnew) (maxL := 2) (ret := none) (by decide) rfl (Nat.le_of_ble_eq_true rfl) ?_
  intro p e s m args below meth c ls X hr hlocks hK hP hl
  obtain ⟨hx, hb, hml, hown, hts⟩ := id X
  have hS : va_S (ipA ad n) s.heap s.heap [] := va_S.rf
  have hl : lv_has ls 2 [(0, .ref (ad po))] := hl
  refine lv_aload_n hx hb dX12_beginAnew_0 rfl (lv_at hl 0 rfl) ?_
  refine q_get (v := .ref (ad h2)) (fs := poF ad po ta h h2 re g o g2 o2 ik fp kb an sc tr) X hK hP fX12_beginAnew_23 h_po m_po rfl dX12_beginAnew_1 ?_
  refine lv_astore_n (lv' := [(1, .ref (ad h2)), (0, .ref (ad po))]) hx hb dX12_beginAnew_4 rfl hl (by decide) rfl (fun ls hl => ?_)
  refine lv_aload_n hx hb dX12_beginAnew_5 rfl (lv_at hl 1 rfl) ?_
  refine lv_aload_n hx hb dX12_beginAnew_6 rfl (lv_at hl 1 rfl) ?_
  refine q_get (v := .ref (ad h)) (fs := poF ad po ta h h2 re g o g2 o2 ik fp kb an sc tr) X hK hP fX12_beginAnew_19 h_po m_po rfl dX12_beginAnew_7 ?_
  refine q_put (fs := poF ad po ta h h2 re g o g2 o2 ik fp kb an sc tr) (fs' := poF ad po ta h h re g o g2 o2 ik fp kb an sc tr) X hK hI hP hS fX12_beginAnew_23 fw_11_2 h_po m_po rfl rfl (Nat.le_of_ble_eq_true rfl) rfl dX12_beginAnew_10 (fun H locs hP hS => ?_)
  refine lv_aload_n hx hb dX12_beginAnew_13 rfl (lv_at hl 1 rfl) ?_
  refine lv_aload_n hx hb dX12_beginAnew_14 rfl (lv_at hl 0 rfl) ?_
  refine q_put (fs := poF ad po ta h h re g o g2 o2 ik fp kb an sc tr) (fs' := poF ad po ta h2 h re g o g2 o2 ik fp kb an sc tr) X hK hI hP hS fX12_beginAnew_19 fw_11_1 h_po (va_up_self M po (.inr (11, poF ad po ta h h re g o g2 o2 ik fp kb an sc tr))) rfl rfl (Nat.le_of_ble_eq_true rfl) rfl dX12_beginAnew_15 (fun H locs hP hS => ?_)
  refine lv_aload_n hx hb dX12_beginAnew_18 rfl (lv_at hl 1 rfl) ?_
  refine q_get (v := .ref (ad g)) (fs := poF ad po ta h2 h re g o g2 o2 ik fp kb an sc tr) X hK hP fX12_beginAnew_40 h_po (va_up_self (va_up M po (.inr (11, poF ad po ta h h re g o g2 o2 ik fp kb an sc tr))) po (.inr (11, poF ad po ta h2 h re g o g2 o2 ik fp kb an sc tr))) rfl dX12_beginAnew_19 ?_
  refine lv_aload_n hx hb dX12_beginAnew_22 rfl (lv_at hl 0 rfl) ?_
  refine q_wrVv (As := [.ref (ad h2)]) (rest := []) (c_X7_begin l D cB cI cJ ad n (va_up (va_up M po (.inr (11, poF ad po ta h h re g o g2 o2 ik fp kb an sc tr))) po (.inr (11, poF ad po ta h2 h re g o g2 o2 ik fp kb an sc tr))) hI g h9 h2 nt op hv tf plf h_g h_g_1 h_g_2 h_h2 h_h2_5 h_h2_6 ((va_up_ne (va_up M po (.inr (11, poF ad po ta h h re g o g2 o2 ik fp kb an sc tr))) (.inr (11, poF ad po ta h2 h re g o g2 o2 ik fp kb an sc tr)) (show g ≠ po by omega)).trans ((va_up_ne M (.inr (11, poF ad po ta h h re g o g2 o2 ik fp kb an sc tr)) (show g ≠ po by omega)).trans m_g)) ((va_up_ne (va_up M po (.inr (11, poF ad po ta h h re g o g2 o2 ik fp kb an sc tr))) (.inr (11, poF ad po ta h2 h re g o g2 o2 ik fp kb an sc tr)) (show g + 1 ≠ po by omega)).trans ((va_up_ne M (.inr (11, poF ad po ta h h re g o g2 o2 ik fp kb an sc tr)) (show g + 1 ≠ po by omega)).trans m_g_1)) ((va_up_ne (va_up M po (.inr (11, poF ad po ta h h re g o g2 o2 ik fp kb an sc tr))) (.inr (11, poF ad po ta h2 h re g o g2 o2 ik fp kb an sc tr)) (show g + 2 ≠ po by omega)).trans ((va_up_ne M (.inr (11, poF ad po ta h h re g o g2 o2 ik fp kb an sc tr)) (show g + 2 ≠ po by omega)).trans m_g_2)) ((va_up_ne (va_up M po (.inr (11, poF ad po ta h h re g o g2 o2 ik fp kb an sc tr))) (.inr (11, poF ad po ta h2 h re g o g2 o2 ik fp kb an sc tr)) (show h2 ≠ po by omega)).trans ((va_up_ne M (.inr (11, poF ad po ta h h re g o g2 o2 ik fp kb an sc tr)) (show h2 ≠ po by omega)).trans m_h2)) ((va_up_ne (va_up M po (.inr (11, poF ad po ta h h re g o g2 o2 ik fp kb an sc tr))) (.inr (11, poF ad po ta h2 h re g o g2 o2 ik fp kb an sc tr)) (show h2 + 5 ≠ po by omega)).trans ((va_up_ne M (.inr (11, poF ad po ta h h re g o g2 o2 ik fp kb an sc tr)) (show h2 + 5 ≠ po by omega)).trans m_h2_5)) ((va_up_ne (va_up M po (.inr (11, poF ad po ta h h re g o g2 o2 ik fp kb an sc tr))) (.inr (11, poF ad po ta h2 h re g o g2 o2 ik fp kb an sc tr)) (show h2 + 6 ≠ po by omega)).trans ((va_up_ne M (.inr (11, poF ad po ta h h re g o g2 o2 ik fp kb an sc tr)) (show h2 + 6 ≠ po by omega)).trans m_h2_6)) h7 hnt hgh2) X hK hP hS hl.1 rfl gX12_beginAnew_X7_begin yd_X7_begin ⟨Nat.le_of_ble_eq_true rfl, Nat.le_of_ble_eq_true rfl⟩ h_g ((va_up_ne (va_up M po (.inr (11, poF ad po ta h h re g o g2 o2 ik fp kb an sc tr))) (.inr (11, poF ad po ta h2 h re g o g2 o2 ik fp kb an sc tr)) (show g ≠ po by omega)).trans ((va_up_ne M (.inr (11, poF ad po ta h h re g o g2 o2 ik fp kb an sc tr)) (show g ≠ po by omega)).trans m_g)) (ci := 7) rfl rfl (Nat.le_of_ble_eq_true rfl) ⟨Nat.zero_le _, Nat.zero_le _⟩ dX12_beginAnew_23 (fun M6 H locs hp5 hP hS => ?_)
  obtain ⟨g8, g9, fr10⟩ := hp5
  refine lv_aload_n hx hb dX12_beginAnew_26 rfl (lv_at hl 1 rfl) ?_
  refine q_get (v := .ref (ad o)) (fs := poF ad po ta h2 h re g o g2 o2 ik fp kb an sc tr) X hK hP fX12_beginAnew_47 h_po ((fr10 po (by omega) (by omega)).trans (va_up_self (va_up M po (.inr (11, poF ad po ta h h re g o g2 o2 ik fp kb an sc tr))) po (.inr (11, poF ad po ta h2 h re g o g2 o2 ik fp kb an sc tr)))) rfl dX12_beginAnew_27 ?_
  refine q_wrVv (As := []) (rest := []) (c_X1_begin l D cB cI cJ ad n M6 hI o ak sk h_o ((fr10 o (by omega) (by omega)).trans ((va_up_ne (va_up M po (.inr (11, poF ad po ta h h re g o g2 o2 ik fp kb an sc tr))) (.inr (11, poF ad po ta h2 h re g o g2 o2 ik fp kb an sc tr)) (show o ≠ po by omega)).trans ((va_up_ne M (.inr (11, poF ad po ta h h re g o g2 o2 ik fp kb an sc tr)) (show o ≠ po by omega)).trans m_o))) ) X hK hP hS hl.1 rfl gX12_beginAnew_X1_begin yd_X1_begin ⟨Nat.le_of_ble_eq_true rfl, Nat.le_of_ble_eq_true rfl⟩ h_o ((fr10 o (by omega) (by omega)).trans ((va_up_ne (va_up M po (.inr (11, poF ad po ta h h re g o g2 o2 ik fp kb an sc tr))) (.inr (11, poF ad po ta h2 h re g o g2 o2 ik fp kb an sc tr)) (show o ≠ po by omega)).trans ((va_up_ne M (.inr (11, poF ad po ta h h re g o g2 o2 ik fp kb an sc tr)) (show o ≠ po by omega)).trans m_o))) (ci := 1) rfl rfl (Nat.le_of_ble_eq_true rfl) ⟨Nat.zero_le _, Nat.zero_le _⟩ dX12_beginAnew_30 (fun M12 H locs hp11 hP hS => ?_)
  obtain ⟨g14, fr15⟩ := hp11
  refine lv_aload_n hx hb dX12_beginAnew_33 rfl (lv_at hl 1 rfl) ?_
  refine q_get (v := .ref (ad an)) (fs := poF ad po ta h2 h re g o g2 o2 ik fp kb an sc tr) X hK hP fX12_beginAnew_71 h_po ((fr15 po (by omega)).trans ((fr10 po (by omega) (by omega)).trans (va_up_self (va_up M po (.inr (11, poF ad po ta h h re g o g2 o2 ik fp kb an sc tr))) po (.inr (11, poF ad po ta h2 h re g o g2 o2 ik fp kb an sc tr))))) rfl dX12_beginAnew_34 ?_
  refine q_wrVv (As := []) (rest := []) (c_X3_begin l D cB cI cJ ad n M12 hI an tof fk ck h_an ((fr15 an (by omega)).trans ((fr10 an (by omega) (by omega)).trans ((va_up_ne (va_up M po (.inr (11, poF ad po ta h h re g o g2 o2 ik fp kb an sc tr))) (.inr (11, poF ad po ta h2 h re g o g2 o2 ik fp kb an sc tr)) (show an ≠ po by omega)).trans ((va_up_ne M (.inr (11, poF ad po ta h h re g o g2 o2 ik fp kb an sc tr)) (show an ≠ po by omega)).trans m_an)))) ) X hK hP hS hl.1 rfl gX12_beginAnew_X3_begin yd_X3_begin ⟨Nat.le_of_ble_eq_true rfl, Nat.le_of_ble_eq_true rfl⟩ h_an ((fr15 an (by omega)).trans ((fr10 an (by omega) (by omega)).trans ((va_up_ne (va_up M po (.inr (11, poF ad po ta h h re g o g2 o2 ik fp kb an sc tr))) (.inr (11, poF ad po ta h2 h re g o g2 o2 ik fp kb an sc tr)) (show an ≠ po by omega)).trans ((va_up_ne M (.inr (11, poF ad po ta h h re g o g2 o2 ik fp kb an sc tr)) (show an ≠ po by omega)).trans m_an)))) (ci := 3) rfl rfl (Nat.le_of_ble_eq_true rfl) ⟨Nat.zero_le _, Nat.zero_le _⟩ dX12_beginAnew_37 (fun M17 H locs hp16 hP hS => ?_)
  obtain ⟨g19, fr20⟩ := hp16
  refine lv_aload_n hx hb dX12_beginAnew_40 rfl (lv_at hl 1 rfl) ?_
  refine lv_iconst (v := 0) hx hb dX12_beginAnew_41 (by decide) ?_
  refine q_put (fs := poF ad po ta h2 h re g o g2 o2 ik fp kb an sc tr) (fs' := poF ad po ta h2 h re g o g2 o2 0 fp kb an sc tr) X hK hI hP hS fX12_beginAnew_118 fw_11_8 h_po ((fr20 po (by omega)).trans ((fr15 po (by omega)).trans ((fr10 po (by omega) (by omega)).trans (va_up_self (va_up M po (.inr (11, poF ad po ta h h re g o g2 o2 ik fp kb an sc tr))) po (.inr (11, poF ad po ta h2 h re g o g2 o2 ik fp kb an sc tr)))))) rfl rfl (Nat.le_of_ble_eq_true rfl) rfl dX12_beginAnew_42 (fun H locs hP hS => ?_)
  exact q_wvret X hr hlocks hP hS ⟨((va_up_ne M17 (.inr (11, poF ad po ta h2 h re g o g2 o2 0 fp kb an sc tr)) (show g ≠ po by omega)).trans ((fr20 g (by omega)).trans ((fr15 g (by omega)).trans g8))), ((va_up_ne M17 (.inr (11, poF ad po ta h2 h re g o g2 o2 0 fp kb an sc tr)) (show g + 2 ≠ po by omega)).trans ((fr20 (g + 2) (by omega)).trans ((fr15 (g + 2) (by omega)).trans g9))), ((va_up_ne M17 (.inr (11, poF ad po ta h2 h re g o g2 o2 0 fp kb an sc tr)) (show o ≠ po by omega)).trans ((fr20 o (by omega)).trans g14)), ((va_up_ne M17 (.inr (11, poF ad po ta h2 h re g o g2 o2 0 fp kb an sc tr)) (show an ≠ po by omega)).trans g19), (va_up_self M17 po (.inr (11, poF ad po ta h2 h re g o g2 o2 0 fp kb an sc tr))), (fun q n0 n1 n2 n3 n4 => ((va_up_ne _ _ n4).trans ((fr20 q n3).trans ((fr15 q n2).trans ((fr10 q n0 n1).trans ((va_up_ne _ _ n4).trans (va_up_ne _ _ n4)))))))⟩ dX12_beginAnew_45
