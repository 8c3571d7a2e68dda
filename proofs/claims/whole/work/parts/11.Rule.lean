/-! PoundsOver$Rule -/
def jn (p a b : Int32) : Int32 :=
  if p = -17 then a * b else if p = -16 then a - b else if p = -15 then a + b else if p = -14 then (if a = b then 1 else 0) else if p = -13 then (if b ≤ a then 0 else 1)
  else if p = -12 then (if b = 0 then 0 else a / b)
  else if p = -11 then (if a = 0 then 0 else if b = 0 then 0 else 1) else if p = -10 then (if a = 0 then (if b = 0 then 0 else 1) else 1) else (if b = 0 then 0 else a / b)
/-- one part of a rule: the stack and its height behind it -/
def rkS (vf sf : Nat → Int32) (hg p : Int32) : (Nat → Int32) × Int32 :=
  if p ≤ -10 then (if p = -12 then (tset 31 sf (hg - 1) (if tat 31 sf (hg - 1) = 0 then 1 else 0), hg)
    else (tset 31 sf (hg - 1 - 1) (jn p (tat 31 sf (hg - 1 - 1)) (tat 31 sf (hg - 1))), hg - 1))
  else (tset 31 sf hg (if p < 0 then tat 5 vf (-1 - p) else p), hg + 1)
def rkN (vf cf : Nat → Int32) (sf : Nat → Int32) : Nat → (Nat → Int32) × Int32
  | 0 => (sf, 0)
  | i + 1 => rkS vf (rkN vf cf sf i).1 (rkN vf cf sf i).2 (tat 700 cf (nI i))
def vals (over w lim th bo : Int32) (vf : Nat → Int32) : Nat → Int32 := tset 5 (tset 5 (tset 5 (tset 5 (tset 5 vf 0 over) 1 w) 2 lim) 3 th) 4 bo
/-- what the rule gives, reckoned over an old stack sf and old values vf -/
def feeR (nl : Nat) (cf : Nat → Int32) (td : Int32) (w lim th bo : Int32) (vf sf : Nat → Int32) : Int32 :=
  if 0 < w - lim then (if td = 0 then 10 * (w - lim) else imax 0 (imin 9999 (tat 31 (rkN (vals (w - lim) w lim th bo vf) cf sf nl).1 0))) else 0
/-- the rule doesn't look at what the stack held -/
def ruleOK (nl : Nat) (cf : Nat → Int32) (td : Int32) : Prop := ∀ (w lim th bo : Int32) (vf sf : Nat → Int32), feeR nl cf td w lim th bo vf sf = feeR nl cf td w lim th bo (fun _ => 0) (fun _ => 0)
def feeS (nl : Nat) (cf : Nat → Int32) (td : Int32) (w lim th bo : Int32) : Int32 := feeR nl cf td w lim th bo (fun _ => 0) (fun _ => 0)
set_option maxRecDepth 20000 in
theorem fX5_clear_26 : FL wsX5_clear RX5 26 5 2 := ⟨RX5, TX5, 6, rfl, by decide +kernel, by decide, by decide +kernel⟩
theorem fw_5_2 : FW 5 2 .boolean := ⟨RX5, TX5, 6, tyX5, rfl, tyX5_ok, nmX5, by decide, rfl, by decide +kernel⟩
set_option maxRecDepth 20000 in
theorem fX5_clear_30 : FL wsX5_clear RX5 30 5 1 := ⟨RX5, TX5, 6, rfl, by decide +kernel, by decide, by decide +kernel⟩
theorem fw_5_1 : FW 5 1 .int := ⟨RX5, TX5, 6, tyX5, rfl, tyX5_ok, nmX5, by decide, rfl, by decide +kernel⟩
set_option maxHeartbeats 4000000 in
set_option maxRecDepth 100000 in
theorem c_X5_clear (l : Launch) (D : va_G) (cB cI cJ : ClassId) (ad : Nat → Nat) (n : Nat) (M : Nat → va_E) (hI : ipI ad n) (u : Nat) (cl td hg : Int32) (h_u : u < n) (m_u : M u = .inr (5, ruleF ad u cl td hg))  : cWv l D cB cI cJ ad n M yX5_clear wsX5_clear 0 0 [.ref (ad u)] (fun M' => M' u = .inr (5, ruleF ad u 0 0 hg) ∧ ∀ q : Nat, q ≠ u → M' q = M q) := by
  refine q_body (cc := cX5_clear) (maxL := 1) (ret := none) (by decide) rfl (Nat.le_of_ble_eq_true rfl) ?_
  intro p e s m args below meth c ls X hr hlocks hK hP hl
  obtain ⟨hx, hb, hml, hown, hts⟩ := id X
  have hS : va_S (ipA ad n) s.heap s.heap [] := va_S.rf
  have hl : lv_has ls 1 [(0, .ref (ad u))] := hl
  refine lv_aload_n hx hb dX5_clear_0 rfl (lv_at hl 0 rfl) ?_
  refine lv_iconst (v := 0) hx hb dX5_clear_1 (by decide) ?_
  refine q_put (fs := ruleF ad u cl td hg) (fs' := ruleF ad u cl 0 hg) X hK hI hP hS fX5_clear_26 fw_5_2 h_u m_u rfl rfl (Nat.le_of_ble_eq_true rfl) rfl dX5_clear_2 (fun H locs hP hS => ?_)
  refine lv_aload_n hx hb dX5_clear_5 rfl (lv_at hl 0 rfl) ?_
  refine lv_iconst (v := 0) hx hb dX5_clear_6 (by decide) ?_
  refine q_put (fs := ruleF ad u cl 0 hg) (fs' := ruleF ad u 0 0 hg) X hK hI hP hS fX5_clear_30 fw_5_1 h_u (va_up_self M u (.inr (5, ruleF ad u cl 0 hg))) rfl rfl (Nat.le_of_ble_eq_true rfl) rfl dX5_clear_7 (fun H locs hP hS => ?_)
  exact q_wvret X hr hlocks hP hS ⟨(va_up_self (va_up M u (.inr (5, ruleF ad u cl 0 hg))) u (.inr (5, ruleF ad u 0 0 hg))), (fun q n0 => ((va_up_ne _ _ n0).trans (va_up_ne _ _ n0)))⟩ dX5_clear_10
set_option maxRecDepth 20000 in
theorem fX5_append_14 : FL wsX5_append RX5 14 5 0 := ⟨RX5, TX5, 6, rfl, by decide +kernel, by decide, by decide +kernel⟩
set_option maxRecDepth 20000 in
theorem fX5_append_30 : FL wsX5_append RX5 30 5 1 := ⟨RX5, TX5, 6, rfl, by decide +kernel, by decide, by decide +kernel⟩
theorem yd_X8_set : YD yX8_set 2 := ⟨by decide +kernel, by decide +kernel, by decide +kernel⟩
set_option maxHeartbeats 4000000 in
set_option maxRecDepth 100000 in
theorem c_X5_append (l : Launch) (D : va_G) (cB cI cJ : ClassId) (ad : Nat → Nat) (n : Nat) (M : Nat → va_E) (hI : ipI ad n) (u : Nat) (cl td hg q : Int32) (cf : Nat → Int32) (h_u : u < n) (h_u_1 : u + 1 < n) (h_u_2 : u + 2 < n) (m_u : M u = .inr (5, ruleF ad u cl td hg)) (m_u_1 : M (u + 1) = .inr (8, [.int 1, .ref (ad (u + 2))])) (m_u_2 : M (u + 2) = .inl (cI, 700, .inl cf))  : cWv l D cB cI cJ ad n M yX5_append wsX5_append 1 22 [.ref (ad u), .int q] (fun M' => M' (u + 2) = .inl (cI, 700, .inl (tset 700 cf cl q)) ∧ M' u = .inr (5, ruleF ad u (cl + 1) td hg) ∧ ∀ q : Nat, q ≠ u + 2 → q ≠ u → M' q = M q) := by
  refine q_body (cc := cX5_append) (maxL := 2) (ret := none) (by decide) rfl (Nat.le_of_ble_eq_true rfl) ?_
  intro p e s m args below meth c ls X hr hlocks hK hP hl
  obtain ⟨hx, hb, hml, hown, hts⟩ := id X
  have hS : va_S (ipA ad n) s.heap s.heap [] := va_S.rf
  have hl : lv_has ls 2 [(0, .ref (ad u)), (1, .int q)] := hl
  refine lv_aload_n hx hb dX5_append_0 rfl (lv_at hl 0 rfl) ?_
  refine q_get (v := .ref (ad (u + 1))) (fs := ruleF ad u cl td hg) X hK hP fX5_append_14 h_u m_u rfl dX5_append_1 ?_
  refine lv_aload_n hx hb dX5_append_4 rfl (lv_at hl 0 rfl) ?_
  refine q_get (v := .int cl) (fs := ruleF ad u cl td hg) X hK hP fX5_append_30 h_u m_u rfl dX5_append_5 ?_
  refine lv_iload_n hx hb dX5_append_8 rfl (lv_at hl 1 rfl) ?_
  refine q_wrVv (As := [.int cl, .int q]) (rest := []) (c_X8_set l D cB cI cJ ad n M hI (u + 1) (u + 2) 700 1 cf cl q h_u_1 h_u_2 m_u_1 m_u_2 (by decide)) X hK hP hS hl.1 rfl gX5_append_X8_set yd_X8_set ⟨Nat.le_of_ble_eq_true rfl, Nat.le_of_ble_eq_true rfl⟩ h_u_1 m_u_1 (ci := 8) rfl rfl (Nat.le_of_ble_eq_true rfl) ⟨Nat.zero_le _, Nat.zero_le _⟩ dX5_append_9 (fun M2 H locs hp1 hP hS => ?_)
  obtain ⟨g4, fr5⟩ := hp1
  refine lv_aload_n hx hb dX5_append_12 rfl (lv_at hl 0 rfl) ?_
  refine lv_dup hx hb dX5_append_13 rfl ?_
  refine q_get (v := .int cl) (fs := ruleF ad u cl td hg) X hK hP fX5_append_30 h_u ((fr5 u (by omega)).trans m_u) rfl dX5_append_14 ?_
  refine lv_iconst (v := 1) hx hb dX5_append_17 (by decide) ?_
  refine lv_iadd hx hb dX5_append_18 ?_
  refine q_put (fs := ruleF ad u cl td hg) (fs' := ruleF ad u (cl + 1) td hg) X hK hI hP hS fX5_append_30 fw_5_1 h_u ((fr5 u (by omega)).trans m_u) rfl rfl (Nat.le_of_ble_eq_true rfl) rfl dX5_append_19 (fun H locs hP hS => ?_)
  exact q_wvret X hr hlocks hP hS ⟨((va_up_ne M2 (.inr (5, ruleF ad u (cl + 1) td hg)) (show u + 2 ≠ u by omega)).trans g4), (va_up_self M2 u (.inr (5, ruleF ad u (cl + 1) td hg))), (fun q n0 n1 => ((va_up_ne _ _ n1).trans (fr5 q n0)))⟩ dX5_append_22
set_option maxHeartbeats 4000000 in
set_option maxRecDepth 100000 in
theorem c_X5_joined (l : Launch) (D : va_G) (cB cI cJ : ClassId) (ad : Nat → Nat) (n : Nat) (M : Nat → va_E) (q a b : Int32)    : cR l D cB cI cJ ad n M yX5_joined wsX5_joined 0 0 [.int q, .int a, .int b] (jn q a b) := by
  refine q_body (cc := cX5_joined) (maxL := 3) (ret := (some .int)) (by decide) rfl (Nat.le_of_ble_eq_true rfl) ?_
  intro p e s m args below meth c ls X hr hlocks hK hP hl
  obtain ⟨hx, hb, hml, hown, hts⟩ := id X
  have hS : va_S (ipA ad n) s.heap s.heap [] := va_S.rf
  have hl : lv_has ls 3 [(0, .int q), (1, .int a), (2, .int b)] := hl
  refine lv_iload_n hx hb dX5_joined_0 rfl (lv_at hl 0 rfl) ?_
  by_cases c_1_0 : q = (-17)
  · refine lv_tableIn (off := 105) (tgt := 106) hx hb dX5_joined_1 (by rw [c_1_0]; decide) (by rw [c_1_0]; decide) (by rw [c_1_0]; decide) (by decide) ?_
    refine lv_iload_n hx hb dX5_joined_106 rfl (lv_at hl 1 rfl) ?_
    refine lv_iload_n hx hb dX5_joined_107 rfl (lv_at hl 2 rfl) ?_
    refine lv_imul hx hb dX5_joined_108 ?_
    exact q_iret hb hx hr hlocks (by rw [jn, if_pos c_1_0]) dX5_joined_109
  by_cases c_1_1 : q = (-16)
  · refine lv_tableIn (off := 101) (tgt := 102) hx hb dX5_joined_1 (by rw [c_1_1]; decide) (by rw [c_1_1]; decide) (by rw [c_1_1]; decide) (by decide) ?_
    refine lv_iload_n hx hb dX5_joined_102 rfl (lv_at hl 1 rfl) ?_
    refine lv_iload_n hx hb dX5_joined_103 rfl (lv_at hl 2 rfl) ?_
    refine lv_isub hx hb dX5_joined_104 ?_
    exact q_iret hb hx hr hlocks (by rw [jn, if_neg c_1_0, if_pos c_1_1]) dX5_joined_105
  by_cases c_1_2 : q = (-15)
  · refine lv_tableIn (off := 97) (tgt := 98) hx hb dX5_joined_1 (by rw [c_1_2]; decide) (by rw [c_1_2]; decide) (by rw [c_1_2]; decide) (by decide) ?_
    refine lv_iload_n hx hb dX5_joined_98 rfl (lv_at hl 1 rfl) ?_
    refine lv_iload_n hx hb dX5_joined_99 rfl (lv_at hl 2 rfl) ?_
    refine lv_iadd hx hb dX5_joined_100 ?_
    exact q_iret hb hx hr hlocks (by rw [jn, if_neg c_1_0, if_neg c_1_1, if_pos c_1_2]) dX5_joined_101
  by_cases c_1_3 : q = (-14)
  · refine lv_tableIn (off := 86) (tgt := 87) hx hb dX5_joined_1 (by rw [c_1_3]; decide) (by rw [c_1_3]; decide) (by rw [c_1_3]; decide) (by decide) ?_
    refine lv_iload_n hx hb dX5_joined_87 rfl (lv_at hl 1 rfl) ?_
    refine lv_iload_n hx hb dX5_joined_88 rfl (lv_at hl 2 rfl) ?_
    refine lv_icmp_ne (tgt := 96) hx hb dX5_joined_89 (by decide) (fun c_89 => ?_) (fun c_89 => ?_)
    · skip
      refine lv_iconst (v := 0) hx hb dX5_joined_96 (by decide) ?_
      exact q_iret hb hx hr hlocks (by rw [jn, if_neg c_1_0, if_neg c_1_1, if_neg c_1_2, if_pos c_1_3, if_neg c_89]) dX5_joined_97
    · skip
      refine lv_iconst (v := 1) hx hb dX5_joined_92 (by decide) ?_
      refine lv_goto (tgt := 97) hx hb dX5_joined_93 (by decide) ?_
      exact q_iret hb hx hr hlocks (by rw [jn, if_neg c_1_0, if_neg c_1_1, if_neg c_1_2, if_pos c_1_3, if_pos c_89]) dX5_joined_97
  by_cases c_1_4 : q = (-13)
  · refine lv_tableIn (off := 75) (tgt := 76) hx hb dX5_joined_1 (by rw [c_1_4]; decide) (by rw [c_1_4]; decide) (by rw [c_1_4]; decide) (by decide) ?_
    refine lv_iload_n hx hb dX5_joined_76 rfl (lv_at hl 1 rfl) ?_
    refine lv_iload_n hx hb dX5_joined_77 rfl (lv_at hl 2 rfl) ?_
    refine lv_icmp_ge (tgt := 85) hx hb dX5_joined_78 (by decide) (fun c_78 => ?_) (fun c_78 => ?_)
    · skip
      refine lv_iconst (v := 0) hx hb dX5_joined_85 (by decide) ?_
      exact q_iret hb hx hr hlocks (by rw [jn, if_neg c_1_0, if_neg c_1_1, if_neg c_1_2, if_neg c_1_3, if_pos c_1_4, if_pos c_78]) dX5_joined_86
    · skip
      refine lv_iconst (v := 1) hx hb dX5_joined_81 (by decide) ?_
      refine lv_goto (tgt := 86) hx hb dX5_joined_82 (by decide) ?_
      exact q_iret hb hx hr hlocks (by rw [jn, if_neg c_1_0, if_neg c_1_1, if_neg c_1_2, if_neg c_1_3, if_pos c_1_4, if_neg c_78]) dX5_joined_86
  by_cases c_1_5 : q = (-12)
  · refine lv_tableIn (off := 109) (tgt := 110) hx hb dX5_joined_1 (by rw [c_1_5]; decide) (by rw [c_1_5]; decide) (by rw [c_1_5]; decide) (by decide) ?_
    refine lv_iload_n hx hb dX5_joined_110 rfl (lv_at hl 2 rfl) ?_
    refine lv_if_ne (tgt := 118) hx hb dX5_joined_111 (by decide) (fun c_111 => ?_) (fun c_111 => ?_)
    · skip
      refine lv_iload_n hx hb dX5_joined_118 rfl (lv_at hl 1 rfl) ?_
      refine lv_iload_n hx hb dX5_joined_119 rfl (lv_at hl 2 rfl) ?_
      refine lv_idiv hx hb dX5_joined_120 (c_111) ?_
      exact q_iret hb hx hr hlocks (by rw [jn, if_neg c_1_0, if_neg c_1_1, if_neg c_1_2, if_neg c_1_3, if_neg c_1_4, if_pos c_1_5, if_neg c_111]) dX5_joined_121
    · skip
      refine lv_iconst (v := 0) hx hb dX5_joined_114 (by decide) ?_
      refine lv_goto (tgt := 121) hx hb dX5_joined_115 (by decide) ?_
      exact q_iret hb hx hr hlocks (by rw [jn, if_neg c_1_0, if_neg c_1_1, if_neg c_1_2, if_neg c_1_3, if_neg c_1_4, if_pos c_1_5, if_pos c_111]) dX5_joined_121
  by_cases c_1_6 : q = (-11)
  · refine lv_tableIn (off := 61) (tgt := 62) hx hb dX5_joined_1 (by rw [c_1_6]; decide) (by rw [c_1_6]; decide) (by rw [c_1_6]; decide) (by decide) ?_
    refine lv_iload_n hx hb dX5_joined_62 rfl (lv_at hl 1 rfl) ?_
    refine lv_if_eq (tgt := 74) hx hb dX5_joined_63 (by decide) (fun c_63 => ?_) (fun c_63 => ?_)
    · skip
      refine lv_iconst (v := 0) hx hb dX5_joined_74 (by decide) ?_
      exact q_iret hb hx hr hlocks (by rw [jn, if_neg c_1_0, if_neg c_1_1, if_neg c_1_2, if_neg c_1_3, if_neg c_1_4, if_neg c_1_5, if_pos c_1_6, if_pos c_63]) dX5_joined_75
    · skip
      refine lv_iload_n hx hb dX5_joined_66 rfl (lv_at hl 2 rfl) ?_
      refine lv_if_eq (tgt := 74) hx hb dX5_joined_67 (by decide) (fun c_67 => ?_) (fun c_67 => ?_)
      · skip
        refine lv_iconst (v := 0) hx hb dX5_joined_74 (by decide) ?_
        exact q_iret hb hx hr hlocks (by rw [jn, if_neg c_1_0, if_neg c_1_1, if_neg c_1_2, if_neg c_1_3, if_neg c_1_4, if_neg c_1_5, if_pos c_1_6, if_neg c_63, if_pos c_67]) dX5_joined_75
      · skip
        refine lv_iconst (v := 1) hx hb dX5_joined_70 (by decide) ?_
        refine lv_goto (tgt := 75) hx hb dX5_joined_71 (by decide) ?_
        exact q_iret hb hx hr hlocks (by rw [jn, if_neg c_1_0, if_neg c_1_1, if_neg c_1_2, if_neg c_1_3, if_neg c_1_4, if_neg c_1_5, if_pos c_1_6, if_neg c_63, if_neg c_67]) dX5_joined_75
  by_cases c_1_7 : q = (-10)
  · refine lv_tableIn (off := 47) (tgt := 48) hx hb dX5_joined_1 (by rw [c_1_7]; decide) (by rw [c_1_7]; decide) (by rw [c_1_7]; decide) (by decide) ?_
    refine lv_iload_n hx hb dX5_joined_48 rfl (lv_at hl 1 rfl) ?_
    refine lv_if_ne (tgt := 56) hx hb dX5_joined_49 (by decide) (fun c_49 => ?_) (fun c_49 => ?_)
    · skip
      refine lv_iconst (v := 1) hx hb dX5_joined_56 (by decide) ?_
      refine lv_goto (tgt := 61) hx hb dX5_joined_57 (by decide) ?_
      exact q_iret hb hx hr hlocks (by rw [jn, if_neg c_1_0, if_neg c_1_1, if_neg c_1_2, if_neg c_1_3, if_neg c_1_4, if_neg c_1_5, if_neg c_1_6, if_pos c_1_7, if_neg c_49]) dX5_joined_61
    · skip
      refine lv_iload_n hx hb dX5_joined_52 rfl (lv_at hl 2 rfl) ?_
      refine lv_if_eq (tgt := 60) hx hb dX5_joined_53 (by decide) (fun c_53 => ?_) (fun c_53 => ?_)
      · skip
        refine lv_iconst (v := 0) hx hb dX5_joined_60 (by decide) ?_
        exact q_iret hb hx hr hlocks (by rw [jn, if_neg c_1_0, if_neg c_1_1, if_neg c_1_2, if_neg c_1_3, if_neg c_1_4, if_neg c_1_5, if_neg c_1_6, if_pos c_1_7, if_pos c_49, if_pos c_53]) dX5_joined_61
      · skip
        refine lv_iconst (v := 1) hx hb dX5_joined_56 (by decide) ?_
        refine lv_goto (tgt := 61) hx hb dX5_joined_57 (by decide) ?_
        exact q_iret hb hx hr hlocks (by rw [jn, if_neg c_1_0, if_neg c_1_1, if_neg c_1_2, if_neg c_1_3, if_neg c_1_4, if_neg c_1_5, if_neg c_1_6, if_pos c_1_7, if_pos c_49, if_neg c_53]) dX5_joined_61
  have n_0 := lv_neT (a := -17) c_1_0 (by decide); have n_1 := lv_neT (a := -16) c_1_1 (by decide); have n_2 := lv_neT (a := -15) c_1_2 (by decide); have n_3 := lv_neT (a := -14) c_1_3 (by decide); have n_4 := lv_neT (a := -13) c_1_4 (by decide); have n_5 := lv_neT (a := -12) c_1_5 (by decide); have n_6 := lv_neT (a := -11) c_1_6 (by decide); have n_7 := lv_neT (a := -10) c_1_7 (by decide)
  refine lv_tableOut (tgt := 110) hx hb dX5_joined_1 (by omega) (by decide) ?_
  refine lv_iload_n hx hb dX5_joined_110 rfl (lv_at hl 2 rfl) ?_
  refine lv_if_ne (tgt := 118) hx hb dX5_joined_111 (by decide) (fun c_111 => ?_) (fun c_111 => ?_)
  · skip
    refine lv_iload_n hx hb dX5_joined_118 rfl (lv_at hl 1 rfl) ?_
    refine lv_iload_n hx hb dX5_joined_119 rfl (lv_at hl 2 rfl) ?_
    refine lv_idiv hx hb dX5_joined_120 (c_111) ?_
    exact q_iret hb hx hr hlocks (by rw [jn, if_neg c_1_0, if_neg c_1_1, if_neg c_1_2, if_neg c_1_3, if_neg c_1_4, if_neg c_1_5, if_neg c_1_6, if_neg c_1_7, if_neg c_111]) dX5_joined_121
  · skip
    refine lv_iconst (v := 0) hx hb dX5_joined_114 (by decide) ?_
    refine lv_goto (tgt := 121) hx hb dX5_joined_115 (by decide) ?_
    exact q_iret hb hx hr hlocks (by rw [jn, if_neg c_1_0, if_neg c_1_1, if_neg c_1_2, if_neg c_1_3, if_neg c_1_4, if_neg c_1_5, if_neg c_1_6, if_neg c_1_7, if_pos c_111]) dX5_joined_121
set_option maxRecDepth 20000 in
theorem fX5_reckon_37 : FL wsX5_reckon RX5 37 5 5 := ⟨RX5, TX5, 6, rfl, by decide +kernel, by decide, by decide +kernel⟩
theorem fw_5_5 : FW 5 5 .int := ⟨RX5, TX5, 6, tyX5, rfl, tyX5_ok, nmX5, by decide, rfl, by decide +kernel⟩
set_option maxRecDepth 20000 in
theorem fX5_reckon_23 : FL wsX5_reckon RX5 23 5 4 := ⟨RX5, TX5, 6, rfl, by decide +kernel, by decide, by decide +kernel⟩
theorem yd_X5_joined : YD yX5_joined 3 := ⟨by decide +kernel, by decide +kernel, by decide +kernel⟩
set_option maxRecDepth 20000 in
theorem fX5_reckon_20 : FL wsX5_reckon RX5 20 5 3 := ⟨RX5, TX5, 6, rfl, by decide +kernel, by decide, by decide +kernel⟩
set_option maxHeartbeats 4000000 in
set_option maxRecDepth 100000 in
theorem c_X5_reckon (l : Launch) (D : va_G) (cB cI cJ : ClassId) (ad : Nat → Nat) (n : Nat) (M : Nat → va_E) (hI : ipI ad n) (u : Nat) (cl td hg q : Int32) (vf sf : Nat → Int32) (h_u : u < n) (h_u_3 : u + 3 < n) (h_u_4 : u + 4 < n) (h_u_5 : u + 5 < n) (h_u_6 : u + 6 < n) (m_u : M u = .inr (5, ruleF ad u cl td hg)) (m_u_3 : M (u + 3) = .inr (8, [.int 1, .ref (ad (u + 4))])) (m_u_4 : M (u + 4) = .inl (cI, 5, .inl vf)) (m_u_5 : M (u + 5) = .inr (8, [.int 1, .ref (ad (u + 6))])) (m_u_6 : M (u + 6) = .inl (cI, 31, .inl sf))  : cWv l D cB cI cJ ad n M yX5_reckon wsX5_reckon 1 22 [.ref (ad u), .int q] (fun M' => M' (u + 6) = .inl (cI, 31, .inl ((rkS vf sf hg q).1)) ∧ M' u = .inr (5, ruleF ad u cl td ((rkS vf sf hg q).2)) ∧ ∀ q : Nat, q ≠ u + 6 → q ≠ u → M' q = M q) := by
  refine q_body (cc := cX5_reckon) (maxL := 2) (ret := none) (by decide) rfl (Nat.le_of_ble_eq_true rfl) ?_
  intro p e s m args below meth c ls X hr hlocks hK hP hl
  obtain ⟨hx, hb, hml, hown, hts⟩ := id X
  have hS : va_S (ipA ad n) s.heap s.heap [] := va_S.rf
  have hl : lv_has ls 2 [(0, .ref (ad u)), (1, .int q)] := hl
  refine lv_iload_n hx hb dX5_reckon_0 rfl (lv_at hl 1 rfl) ?_
  refine lv_bipush (v := (-10)) hx hb dX5_reckon_1 (by decide) ?_
  refine lv_icmp_le (tgt := 48) hx hb dX5_reckon_3 (by decide) (fun c_3 => ?_) (fun c_3 => ?_)
  · skip
    refine lv_iload_n hx hb dX5_reckon_48 rfl (lv_at hl 1 rfl) ?_
    refine lv_bipush (v := (-12)) hx hb dX5_reckon_49 (by decide) ?_
    refine lv_icmp_ne (tgt := 91) hx hb dX5_reckon_51 (by decide) (fun c_51 => ?_) (fun c_51 => ?_)
    · skip
      refine lv_aload_n hx hb dX5_reckon_91 rfl (lv_at hl 0 rfl) ?_
      refine lv_dup hx hb dX5_reckon_92 rfl ?_
      refine q_get (v := .int hg) (fs := ruleF ad u cl td hg) X hK hP fX5_reckon_37 h_u m_u rfl dX5_reckon_93 ?_
      refine lv_iconst (v := 1) hx hb dX5_reckon_96 (by decide) ?_
      refine lv_isub hx hb dX5_reckon_97 ?_
      refine q_put (fs := ruleF ad u cl td hg) (fs' := ruleF ad u cl td (hg - 1)) X hK hI hP hS fX5_reckon_37 fw_5_5 h_u m_u rfl rfl (Nat.le_of_ble_eq_true rfl) rfl dX5_reckon_98 (fun H locs hP hS => ?_)
      refine lv_aload_n hx hb dX5_reckon_101 rfl (lv_at hl 0 rfl) ?_
      refine q_get (v := .ref (ad (u + 5))) (fs := ruleF ad u cl td (hg - 1)) X hK hP fX5_reckon_23 h_u (va_up_self M u (.inr (5, ruleF ad u cl td (hg - 1)))) rfl dX5_reckon_102 ?_
      refine lv_aload_n hx hb dX5_reckon_105 rfl (lv_at hl 0 rfl) ?_
      refine q_get (v := .int (hg - 1)) (fs := ruleF ad u cl td (hg - 1)) X hK hP fX5_reckon_37 h_u (va_up_self M u (.inr (5, ruleF ad u cl td (hg - 1)))) rfl dX5_reckon_106 ?_
      refine lv_iconst (v := 1) hx hb dX5_reckon_109 (by decide) ?_
      refine lv_isub hx hb dX5_reckon_110 ?_
      refine lv_iload_n hx hb dX5_reckon_111 rfl (lv_at hl 1 rfl) ?_
      refine lv_aload_n hx hb dX5_reckon_112 rfl (lv_at hl 0 rfl) ?_
      refine q_get (v := .ref (ad (u + 5))) (fs := ruleF ad u cl td (hg - 1)) X hK hP fX5_reckon_23 h_u (va_up_self M u (.inr (5, ruleF ad u cl td (hg - 1)))) rfl dX5_reckon_113 ?_
      refine lv_aload_n hx hb dX5_reckon_116 rfl (lv_at hl 0 rfl) ?_
      refine q_get (v := .int (hg - 1)) (fs := ruleF ad u cl td (hg - 1)) X hK hP fX5_reckon_37 h_u (va_up_self M u (.inr (5, ruleF ad u cl td (hg - 1)))) rfl dX5_reckon_117 ?_
      refine lv_iconst (v := 1) hx hb dX5_reckon_120 (by decide) ?_
      refine lv_isub hx hb dX5_reckon_121 ?_
      refine q_rdV (As := [.int ((hg - 1) - 1)]) (rest := [.int q, .int ((hg - 1) - 1), .ref (ad (u + 5))]) (c_X8_at l D cB cI cJ ad n (va_up M u (.inr (5, ruleF ad u cl td (hg - 1)))) (u + 5) (u + 6) 31 1 sf ((hg - 1) - 1) h_u_5 h_u_6 ((va_up_ne M (.inr (5, ruleF ad u cl td (hg - 1))) (show u + 5 ≠ u by omega)).trans m_u_5) ((va_up_ne M (.inr (5, ruleF ad u cl td (hg - 1))) (show u + 6 ≠ u by omega)).trans m_u_6) (by decide)) X hK hP hS hl.1 rfl gX5_reckon_X8_at yd_X8_at ⟨Nat.le_of_ble_eq_true rfl, Nat.le_of_ble_eq_true rfl⟩ h_u_5 ((va_up_ne M (.inr (5, ruleF ad u cl td (hg - 1))) (show u + 5 ≠ u by omega)).trans m_u_5) (ci := 8) rfl rfl (Nat.le_of_ble_eq_true rfl) ⟨Nat.zero_le _, Nat.zero_le _⟩ dX5_reckon_122 ?_
      refine lv_aload_n hx hb dX5_reckon_125 rfl (lv_at hl 0 rfl) ?_
      refine q_get (v := .ref (ad (u + 5))) (fs := ruleF ad u cl td (hg - 1)) X hK hP fX5_reckon_23 h_u (va_up_self M u (.inr (5, ruleF ad u cl td (hg - 1)))) rfl dX5_reckon_126 ?_
      refine lv_aload_n hx hb dX5_reckon_129 rfl (lv_at hl 0 rfl) ?_
      refine q_get (v := .int (hg - 1)) (fs := ruleF ad u cl td (hg - 1)) X hK hP fX5_reckon_37 h_u (va_up_self M u (.inr (5, ruleF ad u cl td (hg - 1)))) rfl dX5_reckon_130 ?_
      refine q_rdV (As := [.int (hg - 1)]) (rest := [.int (tat 31 sf ((hg - 1) - 1)), .int q, .int ((hg - 1) - 1), .ref (ad (u + 5))]) (c_X8_at l D cB cI cJ ad n (va_up M u (.inr (5, ruleF ad u cl td (hg - 1)))) (u + 5) (u + 6) 31 1 sf (hg - 1) h_u_5 h_u_6 ((va_up_ne M (.inr (5, ruleF ad u cl td (hg - 1))) (show u + 5 ≠ u by omega)).trans m_u_5) ((va_up_ne M (.inr (5, ruleF ad u cl td (hg - 1))) (show u + 6 ≠ u by omega)).trans m_u_6) (by decide)) X hK hP hS hl.1 rfl gX5_reckon_X8_at yd_X8_at ⟨Nat.le_of_ble_eq_true rfl, Nat.le_of_ble_eq_true rfl⟩ h_u_5 ((va_up_ne M (.inr (5, ruleF ad u cl td (hg - 1))) (show u + 5 ≠ u by omega)).trans m_u_5) (ci := 8) rfl rfl (Nat.le_of_ble_eq_true rfl) ⟨Nat.zero_le _, Nat.zero_le _⟩ dX5_reckon_133 ?_
      refine q_rdS (As := [.int q, .int (tat 31 sf ((hg - 1) - 1)), .int (tat 31 sf (hg - 1))]) (rest := [.int ((hg - 1) - 1), .ref (ad (u + 5))]) (c_X5_joined l D cB cI cJ ad n (va_up M u (.inr (5, ruleF ad u cl td (hg - 1)))) q (tat 31 sf ((hg - 1) - 1)) (tat 31 sf (hg - 1))   ) X hK hP hS hl.1 rfl gX5_reckon_X5_joined yd_X5_joined ⟨Nat.le_of_ble_eq_true rfl, Nat.le_of_ble_eq_true rfl⟩ rfl (Nat.le_of_ble_eq_true rfl) ⟨Nat.zero_le _, Nat.zero_le _⟩ dX5_reckon_136 ?_
      refine q_wrVv (As := [.int ((hg - 1) - 1), .int (jn q (tat 31 sf ((hg - 1) - 1)) (tat 31 sf (hg - 1)))]) (rest := []) (c_X8_set l D cB cI cJ ad n (va_up M u (.inr (5, ruleF ad u cl td (hg - 1)))) hI (u + 5) (u + 6) 31 1 sf ((hg - 1) - 1) (jn q (tat 31 sf ((hg - 1) - 1)) (tat 31 sf (hg - 1))) h_u_5 h_u_6 ((va_up_ne M (.inr (5, ruleF ad u cl td (hg - 1))) (show u + 5 ≠ u by omega)).trans m_u_5) ((va_up_ne M (.inr (5, ruleF ad u cl td (hg - 1))) (show u + 6 ≠ u by omega)).trans m_u_6) (by decide)) X hK hP hS hl.1 rfl gX5_reckon_X8_set yd_X8_set ⟨Nat.le_of_ble_eq_true rfl, Nat.le_of_ble_eq_true rfl⟩ h_u_5 ((va_up_ne M (.inr (5, ruleF ad u cl td (hg - 1))) (show u + 5 ≠ u by omega)).trans m_u_5) (ci := 8) rfl rfl (Nat.le_of_ble_eq_true rfl) ⟨Nat.zero_le _, Nat.zero_le _⟩ dX5_reckon_139 (fun M4 H locs hp3 hP hS => ?_)
      obtain ⟨g6, fr7⟩ := hp3
      exact q_wvret X hr hlocks hP hS ⟨(by rw [rkS, if_pos c_3, if_neg c_51]; exact g6), (by first | (rw [rkS, if_pos c_3, if_neg c_51]; exact ((fr7 u (by omega)).trans (va_up_self M u (.inr (5, ruleF ad u cl td (hg - 1)))))) | (simp only [rkS, {rws}, ↓reduceIte]; exact ((fr7 u (by omega)).trans (va_up_self M u (.inr (5, ruleF ad u cl td (hg - 1))))))), (fun q n0 n1 => ((fr7 q n0).trans (va_up_ne _ _ n1)))⟩ dX5_reckon_142
    · skip
      refine lv_aload_n hx hb dX5_reckon_54 rfl (lv_at hl 0 rfl) ?_
      refine q_get (v := .ref (ad (u + 5))) (fs := ruleF ad u cl td hg) X hK hP fX5_reckon_23 h_u m_u rfl dX5_reckon_55 ?_
      refine lv_aload_n hx hb dX5_reckon_58 rfl (lv_at hl 0 rfl) ?_
      refine q_get (v := .int hg) (fs := ruleF ad u cl td hg) X hK hP fX5_reckon_37 h_u m_u rfl dX5_reckon_59 ?_
      refine lv_iconst (v := 1) hx hb dX5_reckon_62 (by decide) ?_
      refine lv_isub hx hb dX5_reckon_63 ?_
      refine lv_aload_n hx hb dX5_reckon_64 rfl (lv_at hl 0 rfl) ?_
      refine q_get (v := .ref (ad (u + 5))) (fs := ruleF ad u cl td hg) X hK hP fX5_reckon_23 h_u m_u rfl dX5_reckon_65 ?_
      refine lv_aload_n hx hb dX5_reckon_68 rfl (lv_at hl 0 rfl) ?_
      refine q_get (v := .int hg) (fs := ruleF ad u cl td hg) X hK hP fX5_reckon_37 h_u m_u rfl dX5_reckon_69 ?_
      refine lv_iconst (v := 1) hx hb dX5_reckon_72 (by decide) ?_
      refine lv_isub hx hb dX5_reckon_73 ?_
      refine q_rdV (As := [.int (hg - 1)]) (rest := [.int (hg - 1), .ref (ad (u + 5))]) (c_X8_at l D cB cI cJ ad n M (u + 5) (u + 6) 31 1 sf (hg - 1) h_u_5 h_u_6 m_u_5 m_u_6 (by decide)) X hK hP hS hl.1 rfl gX5_reckon_X8_at yd_X8_at ⟨Nat.le_of_ble_eq_true rfl, Nat.le_of_ble_eq_true rfl⟩ h_u_5 m_u_5 (ci := 8) rfl rfl (Nat.le_of_ble_eq_true rfl) ⟨Nat.zero_le _, Nat.zero_le _⟩ dX5_reckon_74 ?_
      refine lv_if_ne (tgt := 84) hx hb dX5_reckon_77 (by decide) (fun c_77 => ?_) (fun c_77 => ?_)
      · skip
        refine lv_iconst (v := 0) hx hb dX5_reckon_84 (by decide) ?_
        refine q_wrVv (As := [.int (hg - 1), .int 0]) (rest := []) (c_X8_set l D cB cI cJ ad n M hI (u + 5) (u + 6) 31 1 sf (hg - 1) 0 h_u_5 h_u_6 m_u_5 m_u_6 (by decide)) X hK hP hS hl.1 rfl gX5_reckon_X8_set yd_X8_set ⟨Nat.le_of_ble_eq_true rfl, Nat.le_of_ble_eq_true rfl⟩ h_u_5 m_u_5 (ci := 8) rfl rfl (Nat.le_of_ble_eq_true rfl) ⟨Nat.zero_le _, Nat.zero_le _⟩ dX5_reckon_85 (fun M9 H locs hp8 hP hS => ?_)
        obtain ⟨g11, fr12⟩ := hp8
        refine lv_goto (tgt := 142) hx hb dX5_reckon_88 (by decide) ?_
        exact q_wvret X hr hlocks hP hS ⟨(by rw [rkS, if_pos c_3, if_pos c_51, if_neg c_77]; exact g11), (by first | (rw [rkS, if_pos c_3, if_pos c_51, if_neg c_77]; exact ((fr12 u (by omega)).trans m_u)) | (simp only [rkS, {rws}, ↓reduceIte]; exact ((fr12 u (by omega)).trans m_u))), (fun q n0 n1 => (fr12 q n0))⟩ dX5_reckon_142
      · skip
        refine lv_iconst (v := 1) hx hb dX5_reckon_80 (by decide) ?_
        refine lv_goto (tgt := 85) hx hb dX5_reckon_81 (by decide) ?_
        refine q_wrVv (As := [.int (hg - 1), .int 1]) (rest := []) (c_X8_set l D cB cI cJ ad n M hI (u + 5) (u + 6) 31 1 sf (hg - 1) 1 h_u_5 h_u_6 m_u_5 m_u_6 (by decide)) X hK hP hS hl.1 rfl gX5_reckon_X8_set yd_X8_set ⟨Nat.le_of_ble_eq_true rfl, Nat.le_of_ble_eq_true rfl⟩ h_u_5 m_u_5 (ci := 8) rfl rfl (Nat.le_of_ble_eq_true rfl) ⟨Nat.zero_le _, Nat.zero_le _⟩ dX5_reckon_85 (fun M14 H locs hp13 hP hS => ?_)
        obtain ⟨g16, fr17⟩ := hp13
        refine lv_goto (tgt := 142) hx hb dX5_reckon_88 (by decide) ?_
        exact q_wvret X hr hlocks hP hS ⟨(by rw [rkS, if_pos c_3, if_pos c_51, if_pos c_77]; exact g16), (by first | (rw [rkS, if_pos c_3, if_pos c_51, if_pos c_77]; exact ((fr17 u (by omega)).trans m_u)) | (simp only [rkS, {rws}, ↓reduceIte]; exact ((fr17 u (by omega)).trans m_u))), (fun q n0 n1 => (fr17 q n0))⟩ dX5_reckon_142
  · skip
    refine lv_aload_n hx hb dX5_reckon_6 rfl (lv_at hl 0 rfl) ?_
    refine q_get (v := .ref (ad (u + 5))) (fs := ruleF ad u cl td hg) X hK hP fX5_reckon_23 h_u m_u rfl dX5_reckon_7 ?_
    refine lv_aload_n hx hb dX5_reckon_10 rfl (lv_at hl 0 rfl) ?_
    refine q_get (v := .int hg) (fs := ruleF ad u cl td hg) X hK hP fX5_reckon_37 h_u m_u rfl dX5_reckon_11 ?_
    refine lv_iload_n hx hb dX5_reckon_14 rfl (lv_at hl 1 rfl) ?_
    refine lv_if_lt (tgt := 22) hx hb dX5_reckon_15 (by decide) (fun c_15 => ?_) (fun c_15 => ?_)
    · skip
      refine lv_aload_n hx hb dX5_reckon_22 rfl (lv_at hl 0 rfl) ?_
      refine q_get (v := .ref (ad (u + 3))) (fs := ruleF ad u cl td hg) X hK hP fX5_reckon_20 h_u m_u rfl dX5_reckon_23 ?_
      refine lv_iconst (v := (-1)) hx hb dX5_reckon_26 (by decide) ?_
      refine lv_iload_n hx hb dX5_reckon_27 rfl (lv_at hl 1 rfl) ?_
      refine lv_isub hx hb dX5_reckon_28 ?_
      refine q_rdV (As := [.int ((-1) - q)]) (rest := [.int hg, .ref (ad (u + 5))]) (c_X8_at l D cB cI cJ ad n M (u + 3) (u + 4) 5 1 vf ((-1) - q) h_u_3 h_u_4 m_u_3 m_u_4 (by decide)) X hK hP hS hl.1 rfl gX5_reckon_X8_at yd_X8_at ⟨Nat.le_of_ble_eq_true rfl, Nat.le_of_ble_eq_true rfl⟩ h_u_3 m_u_3 (ci := 8) rfl rfl (Nat.le_of_ble_eq_true rfl) ⟨Nat.zero_le _, Nat.zero_le _⟩ dX5_reckon_29 ?_
      refine q_wrVv (As := [.int hg, .int (tat 5 vf ((-1) - q))]) (rest := []) (c_X8_set l D cB cI cJ ad n M hI (u + 5) (u + 6) 31 1 sf hg (tat 5 vf ((-1) - q)) h_u_5 h_u_6 m_u_5 m_u_6 (by decide)) X hK hP hS hl.1 rfl gX5_reckon_X8_set yd_X8_set ⟨Nat.le_of_ble_eq_true rfl, Nat.le_of_ble_eq_true rfl⟩ h_u_5 m_u_5 (ci := 8) rfl rfl (Nat.le_of_ble_eq_true rfl) ⟨Nat.zero_le _, Nat.zero_le _⟩ dX5_reckon_32 (fun M19 H locs hp18 hP hS => ?_)
      obtain ⟨g21, fr22⟩ := hp18
      refine lv_aload_n hx hb dX5_reckon_35 rfl (lv_at hl 0 rfl) ?_
      refine lv_dup hx hb dX5_reckon_36 rfl ?_
      refine q_get (v := .int hg) (fs := ruleF ad u cl td hg) X hK hP fX5_reckon_37 h_u ((fr22 u (by omega)).trans m_u) rfl dX5_reckon_37 ?_
      refine lv_iconst (v := 1) hx hb dX5_reckon_40 (by decide) ?_
      refine lv_iadd hx hb dX5_reckon_41 ?_
      refine q_put (fs := ruleF ad u cl td hg) (fs' := ruleF ad u cl td (hg + 1)) X hK hI hP hS fX5_reckon_37 fw_5_5 h_u ((fr22 u (by omega)).trans m_u) rfl rfl (Nat.le_of_ble_eq_true rfl) rfl dX5_reckon_42 (fun H locs hP hS => ?_)
      refine lv_goto (tgt := 142) hx hb dX5_reckon_45 (by decide) ?_
      exact q_wvret X hr hlocks hP hS ⟨(by rw [rkS, if_neg c_3, if_pos c_15]; exact ((va_up_ne M19 (.inr (5, ruleF ad u cl td (hg + 1))) (show u + 6 ≠ u by omega)).trans g21)), (by first | (rw [rkS, if_neg c_3, if_pos c_15]; exact (va_up_self M19 u (.inr (5, ruleF ad u cl td (hg + 1))))) | (simp only [rkS, {rws}, ↓reduceIte]; exact (va_up_self M19 u (.inr (5, ruleF ad u cl td (hg + 1)))))), (fun q n0 n1 => ((va_up_ne _ _ n1).trans (fr22 q n0)))⟩ dX5_reckon_142
    · skip
      refine lv_iload_n hx hb dX5_reckon_18 rfl (lv_at hl 1 rfl) ?_
      refine lv_goto (tgt := 32) hx hb dX5_reckon_19 (by decide) ?_
      refine q_wrVv (As := [.int hg, .int q]) (rest := []) (c_X8_set l D cB cI cJ ad n M hI (u + 5) (u + 6) 31 1 sf hg q h_u_5 h_u_6 m_u_5 m_u_6 (by decide)) X hK hP hS hl.1 rfl gX5_reckon_X8_set yd_X8_set ⟨Nat.le_of_ble_eq_true rfl, Nat.le_of_ble_eq_true rfl⟩ h_u_5 m_u_5 (ci := 8) rfl rfl (Nat.le_of_ble_eq_true rfl) ⟨Nat.zero_le _, Nat.zero_le _⟩ dX5_reckon_32 (fun M26 H locs hp25 hP hS => ?_)
      obtain ⟨g28, fr29⟩ := hp25
      refine lv_aload_n hx hb dX5_reckon_35 rfl (lv_at hl 0 rfl) ?_
      refine lv_dup hx hb dX5_reckon_36 rfl ?_
      refine q_get (v := .int hg) (fs := ruleF ad u cl td hg) X hK hP fX5_reckon_37 h_u ((fr29 u (by omega)).trans m_u) rfl dX5_reckon_37 ?_
      refine lv_iconst (v := 1) hx hb dX5_reckon_40 (by decide) ?_
      refine lv_iadd hx hb dX5_reckon_41 ?_
      refine q_put (fs := ruleF ad u cl td hg) (fs' := ruleF ad u cl td (hg + 1)) X hK hI hP hS fX5_reckon_37 fw_5_5 h_u ((fr29 u (by omega)).trans m_u) rfl rfl (Nat.le_of_ble_eq_true rfl) rfl dX5_reckon_42 (fun H locs hP hS => ?_)
      refine lv_goto (tgt := 142) hx hb dX5_reckon_45 (by decide) ?_
      exact q_wvret X hr hlocks hP hS ⟨(by rw [rkS, if_neg c_3, if_neg c_15]; exact ((va_up_ne M26 (.inr (5, ruleF ad u cl td (hg + 1))) (show u + 6 ≠ u by omega)).trans g28)), (by first | (rw [rkS, if_neg c_3, if_neg c_15]; exact (va_up_self M26 u (.inr (5, ruleF ad u cl td (hg + 1))))) | (simp only [rkS, {rws}, ↓reduceIte]; exact (va_up_self M26 u (.inr (5, ruleF ad u cl td (hg + 1)))))), (fun q n0 n1 => ((va_up_ne _ _ n1).trans (fr29 q n0)))⟩ dX5_reckon_142
set_option maxRecDepth 20000 in
theorem fX5_feeFor_26 : FL wsX5_feeFor RX5 26 5 2 := ⟨RX5, TX5, 6, rfl, by decide +kernel, by decide, by decide +kernel⟩
set_option maxRecDepth 20000 in
theorem fX5_feeFor_20 : FL wsX5_feeFor RX5 20 5 3 := ⟨RX5, TX5, 6, rfl, by decide +kernel, by decide, by decide +kernel⟩
set_option maxRecDepth 20000 in
theorem fX5_feeFor_37 : FL wsX5_feeFor RX5 37 5 5 := ⟨RX5, TX5, 6, rfl, by decide +kernel, by decide, by decide +kernel⟩
set_option maxRecDepth 20000 in
theorem fX5_feeFor_30 : FL wsX5_feeFor RX5 30 5 1 := ⟨RX5, TX5, 6, rfl, by decide +kernel, by decide, by decide +kernel⟩
set_option maxRecDepth 20000 in
theorem fX5_feeFor_23 : FL wsX5_feeFor RX5 23 5 4 := ⟨RX5, TX5, 6, rfl, by decide +kernel, by decide, by decide +kernel⟩
set_option maxRecDepth 20000 in
theorem fX5_feeFor_14 : FL wsX5_feeFor RX5 14 5 0 := ⟨RX5, TX5, 6, rfl, by decide +kernel, by decide, by decide +kernel⟩
theorem yd_X5_reckon : YD yX5_reckon 1 := ⟨by decide +kernel, by decide +kernel, by decide +kernel⟩
set_option maxHeartbeats 4000000 in
set_option maxRecDepth 100000 in
theorem c_X5_feeFor (l : Launch) (D : va_G) (cB cI cJ : ClassId) (ad : Nat → Nat) (n : Nat) (M : Nat → va_E) (hI : ipI ad n) (u nl : Nat) (td hg w lim th bo : Int32) (cf vf sf : Nat → Int32) (h_u : u < n) (h_u_1 : u + 1 < n) (h_u_2 : u + 2 < n) (h_u_3 : u + 3 < n) (h_u_4 : u + 4 < n) (h_u_5 : u + 5 < n) (h_u_6 : u + 6 < n) (m_u : M u = .inr (5, ruleF ad u (nI nl) td hg)) (m_u_1 : M (u + 1) = .inr (8, [.int 1, .ref (ad (u + 2))])) (m_u_2 : M (u + 2) = .inl (cI, 700, .inl cf)) (m_u_3 : M (u + 3) = .inr (8, [.int 1, .ref (ad (u + 4))])) (m_u_4 : M (u + 4) = .inl (cI, 5, .inl vf)) (m_u_5 : M (u + 5) = .inr (8, [.int 1, .ref (ad (u + 6))])) (m_u_6 : M (u + 6) = .inl (cI, 31, .inl sf)) (hnl : nl ≤ 700) (hOK : ruleOK nl cf td) : cWi l D cB cI cJ ad n M yX5_feeFor wsX5_feeFor 2 43 [.ref (ad u), .int w, .int lim, .int th, .int bo] (fun r M' => ∃ (vf2 sf2 : Nat → Int32) (hg2 : Int32), r = feeS nl cf td w lim th bo ∧ M' (u + 4) = .inl (cI, 5, .inl vf2) ∧ M' (u + 6) = .inl (cI, 31, .inl sf2) ∧ M' u = .inr (5, ruleF ad u (nI nl) td hg2) ∧ ∀ q : Nat, q ≠ u + 4 → q ≠ u + 6 → q ≠ u → M' q = M q) := by
  refine q_body (cc := cX5_feeFor) (maxL := 7) (ret := (some .int)) (by decide) rfl (Nat.le_of_ble_eq_true rfl) ?_
  intro p e s m args below meth c ls X hr hlocks hK hP hl
  obtain ⟨hx, hb, hml, hown, hts⟩ := id X
  have hS : va_S (ipA ad n) s.heap s.heap [] := va_S.rf
  have hl : lv_has ls 7 [(0, .ref (ad u)), (1, .int w), (2, .int lim), (3, .int th), (4, .int bo)] := hl
  refine lv_iload_n hx hb dX5_feeFor_0 rfl (lv_at hl 1 rfl) ?_
  refine lv_iload_n hx hb dX5_feeFor_1 rfl (lv_at hl 2 rfl) ?_
  refine lv_isub hx hb dX5_feeFor_2 ?_
  refine lv_istore (lv' := [(5, .int (w - lim)), (0, .ref (ad u)), (1, .int w), (2, .int lim), (3, .int th), (4, .int bo)]) hx hb dX5_feeFor_3 hl (by decide) rfl (fun ls hl => ?_)
  refine lv_iload hx hb dX5_feeFor_5 (lv_at hl 0 rfl) ?_
  refine lv_if_gt (tgt := 12) hx hb dX5_feeFor_7 (by decide) (fun c_7 => ?_) (fun c_7 => ?_)
  · skip
    refine lv_aload_n hx hb dX5_feeFor_12 rfl (lv_at hl 1 rfl) ?_
    refine q_get (v := .int td) (fs := ruleF ad u (nI nl) td hg) X hK hP fX5_feeFor_26 h_u m_u rfl dX5_feeFor_13 ?_
    refine lv_if_ne (tgt := 25) hx hb dX5_feeFor_16 (by decide) (fun c_16 => ?_) (fun c_16 => ?_)
    · skip
      refine lv_aload_n hx hb dX5_feeFor_25 rfl (lv_at hl 1 rfl) ?_
      refine q_get (v := .ref (ad (u + 3))) (fs := ruleF ad u (nI nl) td hg) X hK hP fX5_feeFor_20 h_u m_u rfl dX5_feeFor_26 ?_
      refine lv_iconst (v := 0) hx hb dX5_feeFor_29 (by decide) ?_
      refine lv_iload hx hb dX5_feeFor_30 (lv_at hl 0 rfl) ?_
      refine q_wrVv (As := [.int 0, .int (w - lim)]) (rest := []) (c_X8_set l D cB cI cJ ad n M hI (u + 3) (u + 4) 5 1 vf 0 (w - lim) h_u_3 h_u_4 m_u_3 m_u_4 (by decide)) X hK hP hS hl.1 rfl gX5_feeFor_X8_set yd_X8_set ⟨Nat.le_of_ble_eq_true rfl, Nat.le_of_ble_eq_true rfl⟩ h_u_3 m_u_3 (ci := 8) rfl rfl (Nat.le_of_ble_eq_true rfl) ⟨Nat.zero_le _, Nat.zero_le _⟩ dX5_feeFor_32 (fun M2 H locs hp1 hP hS => ?_)
      obtain ⟨g4, fr5⟩ := hp1
      refine lv_aload_n hx hb dX5_feeFor_35 rfl (lv_at hl 1 rfl) ?_
      refine q_get (v := .ref (ad (u + 3))) (fs := ruleF ad u (nI nl) td hg) X hK hP fX5_feeFor_20 h_u ((fr5 u (by omega)).trans m_u) rfl dX5_feeFor_36 ?_
      refine lv_iconst (v := 1) hx hb dX5_feeFor_39 (by decide) ?_
      refine lv_iload_n hx hb dX5_feeFor_40 rfl (lv_at hl 2 rfl) ?_
      refine q_wrVv (As := [.int 1, .int w]) (rest := []) (c_X8_set l D cB cI cJ ad n M2 hI (u + 3) (u + 4) 5 1 (tset 5 vf 0 (w - lim)) 1 w h_u_3 h_u_4 ((fr5 (u + 3) (by omega)).trans m_u_3) g4 (by decide)) X hK hP hS hl.1 rfl gX5_feeFor_X8_set yd_X8_set ⟨Nat.le_of_ble_eq_true rfl, Nat.le_of_ble_eq_true rfl⟩ h_u_3 ((fr5 (u + 3) (by omega)).trans m_u_3) (ci := 8) rfl rfl (Nat.le_of_ble_eq_true rfl) ⟨Nat.zero_le _, Nat.zero_le _⟩ dX5_feeFor_41 (fun M7 H locs hp6 hP hS => ?_)
      obtain ⟨g9, fr10⟩ := hp6
      refine lv_aload_n hx hb dX5_feeFor_44 rfl (lv_at hl 1 rfl) ?_
      refine q_get (v := .ref (ad (u + 3))) (fs := ruleF ad u (nI nl) td hg) X hK hP fX5_feeFor_20 h_u ((fr10 u (by omega)).trans ((fr5 u (by omega)).trans m_u)) rfl dX5_feeFor_45 ?_
      refine lv_iconst (v := 2) hx hb dX5_feeFor_48 (by decide) ?_
      refine lv_iload_n hx hb dX5_feeFor_49 rfl (lv_at hl 3 rfl) ?_
      refine q_wrVv (As := [.int 2, .int lim]) (rest := []) (c_X8_set l D cB cI cJ ad n M7 hI (u + 3) (u + 4) 5 1 (tset 5 (tset 5 vf 0 (w - lim)) 1 w) 2 lim h_u_3 h_u_4 ((fr10 (u + 3) (by omega)).trans ((fr5 (u + 3) (by omega)).trans m_u_3)) g9 (by decide)) X hK hP hS hl.1 rfl gX5_feeFor_X8_set yd_X8_set ⟨Nat.le_of_ble_eq_true rfl, Nat.le_of_ble_eq_true rfl⟩ h_u_3 ((fr10 (u + 3) (by omega)).trans ((fr5 (u + 3) (by omega)).trans m_u_3)) (ci := 8) rfl rfl (Nat.le_of_ble_eq_true rfl) ⟨Nat.zero_le _, Nat.zero_le _⟩ dX5_feeFor_50 (fun M12 H locs hp11 hP hS => ?_)
      obtain ⟨g14, fr15⟩ := hp11
      refine lv_aload_n hx hb dX5_feeFor_53 rfl (lv_at hl 1 rfl) ?_
      refine q_get (v := .ref (ad (u + 3))) (fs := ruleF ad u (nI nl) td hg) X hK hP fX5_feeFor_20 h_u ((fr15 u (by omega)).trans ((fr10 u (by omega)).trans ((fr5 u (by omega)).trans m_u))) rfl dX5_feeFor_54 ?_
      refine lv_iconst (v := 3) hx hb dX5_feeFor_57 (by decide) ?_
      refine lv_iload_n hx hb dX5_feeFor_58 rfl (lv_at hl 4 rfl) ?_
      refine q_wrVv (As := [.int 3, .int th]) (rest := []) (c_X8_set l D cB cI cJ ad n M12 hI (u + 3) (u + 4) 5 1 (tset 5 (tset 5 (tset 5 vf 0 (w - lim)) 1 w) 2 lim) 3 th h_u_3 h_u_4 ((fr15 (u + 3) (by omega)).trans ((fr10 (u + 3) (by omega)).trans ((fr5 (u + 3) (by omega)).trans m_u_3))) g14 (by decide)) X hK hP hS hl.1 rfl gX5_feeFor_X8_set yd_X8_set ⟨Nat.le_of_ble_eq_true rfl, Nat.le_of_ble_eq_true rfl⟩ h_u_3 ((fr15 (u + 3) (by omega)).trans ((fr10 (u + 3) (by omega)).trans ((fr5 (u + 3) (by omega)).trans m_u_3))) (ci := 8) rfl rfl (Nat.le_of_ble_eq_true rfl) ⟨Nat.zero_le _, Nat.zero_le _⟩ dX5_feeFor_59 (fun M17 H locs hp16 hP hS => ?_)
      obtain ⟨g19, fr20⟩ := hp16
      refine lv_aload_n hx hb dX5_feeFor_62 rfl (lv_at hl 1 rfl) ?_
      refine q_get (v := .ref (ad (u + 3))) (fs := ruleF ad u (nI nl) td hg) X hK hP fX5_feeFor_20 h_u ((fr20 u (by omega)).trans ((fr15 u (by omega)).trans ((fr10 u (by omega)).trans ((fr5 u (by omega)).trans m_u)))) rfl dX5_feeFor_63 ?_
      refine lv_iconst (v := 4) hx hb dX5_feeFor_66 (by decide) ?_
      refine lv_iload hx hb dX5_feeFor_67 (lv_at hl 5 rfl) ?_
      refine q_wrVv (As := [.int 4, .int bo]) (rest := []) (c_X8_set l D cB cI cJ ad n M17 hI (u + 3) (u + 4) 5 1 (tset 5 (tset 5 (tset 5 (tset 5 vf 0 (w - lim)) 1 w) 2 lim) 3 th) 4 bo h_u_3 h_u_4 ((fr20 (u + 3) (by omega)).trans ((fr15 (u + 3) (by omega)).trans ((fr10 (u + 3) (by omega)).trans ((fr5 (u + 3) (by omega)).trans m_u_3)))) g19 (by decide)) X hK hP hS hl.1 rfl gX5_feeFor_X8_set yd_X8_set ⟨Nat.le_of_ble_eq_true rfl, Nat.le_of_ble_eq_true rfl⟩ h_u_3 ((fr20 (u + 3) (by omega)).trans ((fr15 (u + 3) (by omega)).trans ((fr10 (u + 3) (by omega)).trans ((fr5 (u + 3) (by omega)).trans m_u_3)))) (ci := 8) rfl rfl (Nat.le_of_ble_eq_true rfl) ⟨Nat.zero_le _, Nat.zero_le _⟩ dX5_feeFor_69 (fun M22 H locs hp21 hP hS => ?_)
      obtain ⟨g24, fr25⟩ := hp21
      refine lv_aload_n hx hb dX5_feeFor_72 rfl (lv_at hl 1 rfl) ?_
      refine lv_iconst (v := 0) hx hb dX5_feeFor_73 (by decide) ?_
      refine q_put (fs := ruleF ad u (nI nl) td hg) (fs' := ruleF ad u (nI nl) td 0) X hK hI hP hS fX5_feeFor_37 fw_5_5 h_u ((fr25 u (by omega)).trans ((fr20 u (by omega)).trans ((fr15 u (by omega)).trans ((fr10 u (by omega)).trans ((fr5 u (by omega)).trans m_u))))) rfl rfl (Nat.le_of_ble_eq_true rfl) rfl dX5_feeFor_74 (fun H locs hP hS => ?_)
      refine lv_iconst (v := 0) hx hb dX5_feeFor_77 (by decide) ?_
      refine lv_istore (lv' := [(6, .int 0), (5, .int (w - lim)), (0, .ref (ad u)), (1, .int w), (2, .int lim), (3, .int th), (4, .int bo)]) hx hb dX5_feeFor_78 hl (by decide) rfl (fun ls hl => ?_)
      have loop_80 : ∀ (fuel : Nat) (t : Nat) (x6 : Int32), nl - t < fuel → (t ≤ nl) → x6 = nI t → ∀ (ML80 : Nat → va_E) (H : Heap) (locs : List Loc), ML80 (u + 4) = .inl (cI, 5, .inl (vals (w - lim) w lim th bo vf)) → ML80 (u + 6) = .inl (cI, 31, .inl ((rkN (vals (w - lim) w lim th bo vf) cf sf t).1)) → ML80 u = .inr (5, ruleF ad u (nI nl) td ((rkN (vals (w - lim) w lim th bo vf) cf sf t).2)) → (∀ q : Nat, q ≠ u + 4 → q ≠ u + 6 → q ≠ u → ML80 q = M q) → va_P D vwCl (ip ad n ML80) H → va_S (ipA ad n) s.heap H locs → ∀ (ls : Array Slot), lv_has ls 7 [(0, .ref (ad u)), (6, .int x6)] → W p l e (rmOf 2 43) s m args below meth c H locs 0 0 (MQ below (va_Qi (fun r M' => ∃ (vf2 sf2 : Nat → Int32) (hg2 : Int32), r = feeS nl cf td w lim th bo ∧ M' (u + 4) = .inl (cI, 5, .inl vf2) ∧ M' (u + 6) = .inl (cI, 31, .inl sf2) ∧ M' u = .inr (5, ruleF ad u (nI nl) td hg2) ∧ ∀ q : Nat, q ≠ u + 4 → q ≠ u + 6 → q ≠ u → M' q = M q) (fun M' t => va_P D vwCl (ip ad n M') t.heap) (ipA ad n)) args s 0 0 (ipA ad n)) (F0 m 80 ls []) := by
        intro fuel
        induction fuel with
        | zero =>
          intro t x6 hz
          exact absurd hz (Nat.not_lt_zero _)
        | succ fuel ih_80 =>
          intro t x6 hz_80 ht e6 ML80 H locs mL80_0 mL80_1 mL80_2 fL80 hP hS ls hl
          subst e6
          skip
          refine lv_iload hx hb dX5_feeFor_80 (lv_at hl 1 rfl) ?_
          refine lv_aload_n hx hb dX5_feeFor_82 rfl (lv_at hl 0 rfl) ?_
          refine q_get (v := .int (nI nl)) (fs := ruleF ad u (nI nl) td ((rkN (vals (w - lim) w lim th bo vf) cf sf t).2)) X hK hP fX5_feeFor_30 h_u mL80_2 rfl dX5_feeFor_83 ?_
          refine lv_icmp_ge (tgt := 108) hx hb dX5_feeFor_86 (by decide) (fun c_86 => ?_) (fun c_86 => ?_)
          · skip
            refine lv_iconst (v := 0) hx hb dX5_feeFor_108 (by decide) ?_
            refine lv_sipush (v := 9999) hx hb dX5_feeFor_109 (by decide) ?_
            refine lv_aload_n hx hb dX5_feeFor_112 rfl (lv_at hl 0 rfl) ?_
            refine q_get (v := .ref (ad (u + 5))) (fs := ruleF ad u (nI nl) td ((rkN (vals (w - lim) w lim th bo vf) cf sf t).2)) X hK hP fX5_feeFor_23 h_u mL80_2 rfl dX5_feeFor_113 ?_
            refine lv_iconst (v := 0) hx hb dX5_feeFor_116 (by decide) ?_
            refine q_rdV (As := [.int 0]) (rest := [.int 9999, .int 0]) (c_X8_at l D cB cI cJ ad n ML80 (u + 5) (u + 6) 31 1 ((rkN (vals (w - lim) w lim th bo vf) cf sf t).1) 0 h_u_5 h_u_6 ((fL80 (u + 5) (by omega) (by omega) (by omega)).trans m_u_5) mL80_1 (by decide)) X hK hP hS hl.1 rfl gX5_feeFor_X8_at yd_X8_at ⟨Nat.le_of_ble_eq_true rfl, Nat.le_of_ble_eq_true rfl⟩ h_u_5 ((fL80 (u + 5) (by omega) (by omega) (by omega)).trans m_u_5) (ci := 8) rfl rfl (Nat.le_of_ble_eq_true rfl) ⟨Nat.zero_le _, Nat.zero_le _⟩ dX5_feeFor_117 ?_
            refine q_min X hl.1 (by decide +kernel) (by decide +kernel) (by decide +kernel) (by decide +kernel) ⟨Nat.le_of_ble_eq_true rfl, Nat.le_of_ble_eq_true rfl⟩ (Nat.le_of_ble_eq_true rfl) ⟨Nat.zero_le _, Nat.zero_le _⟩ dX5_feeFor_120 ?_
            refine q_max X hl.1 (by decide +kernel) (by decide +kernel) (by decide +kernel) (by decide +kernel) ⟨Nat.le_of_ble_eq_true rfl, Nat.le_of_ble_eq_true rfl⟩ (Nat.le_of_ble_eq_true rfl) ⟨Nat.zero_le _, Nat.zero_le _⟩ dX5_feeFor_123 ?_
            have h9 : t = nl := eq_of_le c_86 (by omega) ht
            exact q_wzret X hr hlocks hP hS (rfl) ⟨_, _, _, (by subst h9; rw [feeS, ← hOK w lim th bo vf sf, feeR, if_pos c_7, if_neg c_16]; rfl), mL80_0, mL80_1, mL80_2, (fun q n0 n1 n2 => (fL80 q n0 n1 n2))⟩ dX5_feeFor_126
          · skip
            refine lv_aload_n hx hb dX5_feeFor_89 rfl (lv_at hl 0 rfl) ?_
            refine lv_aload_n hx hb dX5_feeFor_90 rfl (lv_at hl 0 rfl) ?_
            refine q_get (v := .ref (ad (u + 1))) (fs := ruleF ad u (nI nl) td ((rkN (vals (w - lim) w lim th bo vf) cf sf t).2)) X hK hP fX5_feeFor_14 h_u mL80_2 rfl dX5_feeFor_91 ?_
            refine lv_iload hx hb dX5_feeFor_94 (lv_at hl 1 rfl) ?_
            refine q_rdV (As := [.int (nI t)]) (rest := [.ref (ad u)]) (c_X8_at l D cB cI cJ ad n ML80 (u + 1) (u + 2) 700 1 cf (nI t) h_u_1 h_u_2 ((fL80 (u + 1) (by omega) (by omega) (by omega)).trans m_u_1) ((fL80 (u + 2) (by omega) (by omega) (by omega)).trans m_u_2) (by decide)) X hK hP hS hl.1 rfl gX5_feeFor_X8_at yd_X8_at ⟨Nat.le_of_ble_eq_true rfl, Nat.le_of_ble_eq_true rfl⟩ h_u_1 ((fL80 (u + 1) (by omega) (by omega) (by omega)).trans m_u_1) (ci := 8) rfl rfl (Nat.le_of_ble_eq_true rfl) ⟨Nat.zero_le _, Nat.zero_le _⟩ dX5_feeFor_96 ?_
            refine q_wrVv (As := [.int (tat 700 cf (nI t))]) (rest := []) (c_X5_reckon l D cB cI cJ ad n ML80 hI u (nI nl) td ((rkN (vals (w - lim) w lim th bo vf) cf sf t).2) (tat 700 cf (nI t)) (vals (w - lim) w lim th bo vf) ((rkN (vals (w - lim) w lim th bo vf) cf sf t).1) h_u h_u_3 h_u_4 h_u_5 h_u_6 mL80_2 ((fL80 (u + 3) (by omega) (by omega) (by omega)).trans m_u_3) mL80_0 ((fL80 (u + 5) (by omega) (by omega) (by omega)).trans m_u_5) mL80_1 ) X hK hP hS hl.1 rfl gX5_feeFor_X5_reckon yd_X5_reckon ⟨Nat.le_of_ble_eq_true rfl, Nat.le_of_ble_eq_true rfl⟩ h_u mL80_2 (ci := 5) rfl rfl (Nat.le_of_ble_eq_true rfl) ⟨Nat.zero_le _, Nat.zero_le _⟩ dX5_feeFor_99 (fun M29 H locs hp28 hP hS => ?_)
            obtain ⟨g31, g32, fr33⟩ := hp28
            refine lv_iinc (v := ((nI t) + 1)) (lv' := [(6, .int ((nI t) + 1)), (0, .ref (ad u))]) hx hb dX5_feeFor_102 hl (k := 1) rfl rfl (by decide) rfl (fun ls hl => ?_)
            refine lv_goto (tgt := 80) hx hb dX5_feeFor_105 (by decide) ?_
            exact ih_80 (t + 1) ((nI t) + 1) (by have := lt_of_nlt c_86 (by omega) ht; omega) (by have := lt_of_nlt c_86 (by omega) ht; omega) (by first | rfl | exact nI_0.symm | exact nI_1 _) _ _ _ ((fr33 (u + 4) (by omega) (by omega)).trans mL80_0) g31 g32 (fun q n0 n1 n2 => ((fr33 q n1 n2).trans (fL80 q n0 n1 n2))) hP hS ls (lv_sub hl [1, 0] rfl)
      exact loop_80 (nl + 1) 0 0 (by omega) (by omega) (by first | rfl | exact nI_0.symm | exact nI_1 _) _ _ _ ((va_up_ne M22 (.inr (5, ruleF ad u (nI nl) td 0)) (show u + 4 ≠ u by omega)).trans g24) ((va_up_ne M22 (.inr (5, ruleF ad u (nI nl) td 0)) (show u + 6 ≠ u by omega)).trans ((fr25 (u + 6) (by omega)).trans ((fr20 (u + 6) (by omega)).trans ((fr15 (u + 6) (by omega)).trans ((fr10 (u + 6) (by omega)).trans ((fr5 (u + 6) (by omega)).trans m_u_6)))))) (va_up_self M22 u (.inr (5, ruleF ad u (nI nl) td 0))) (fun q n0 n1 n2 => ((va_up_ne _ _ n2).trans ((fr25 q n0).trans ((fr20 q n0).trans ((fr15 q n0).trans ((fr10 q n0).trans (fr5 q n0))))))) hP hS ls (lv_sub hl [2, 0] rfl)
    · skip
      refine lv_bipush (v := 10) hx hb dX5_feeFor_19 (by decide) ?_
      refine lv_iload hx hb dX5_feeFor_21 (lv_at hl 0 rfl) ?_
      refine lv_imul hx hb dX5_feeFor_23 ?_
      exact q_wzret X hr hlocks hP hS (rfl) ⟨vf, sf, hg, (by rw [feeS, feeR, if_pos c_7, if_pos c_16]), m_u_4, m_u_6, m_u, (fun q n0 n1 n2 => rfl)⟩ dX5_feeFor_24
  · skip
    refine lv_iconst (v := 0) hx hb dX5_feeFor_10 (by decide) ?_
    exact q_wzret X hr hlocks hP hS (rfl) ⟨vf, sf, hg, (by rw [feeS, feeR, if_neg c_7]), m_u_4, m_u_6, m_u, (fun q n0 n1 n2 => rfl)⟩ dX5_feeFor_11
