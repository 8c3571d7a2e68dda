/-! PoundsOverModel: what is paid -/
def s_X13_reckon (x : Int32) (y : Int32) (z : Int32) : Int32 := if x = (-26) then if y = 0 then 0 else if z = 0 then 0 else 1 else if x = (-25) then if y = z then 1 else 0 else if x = (-24) then if z ≤ y then 0 else 1 else if x = (-23) then if z = 0 then 0 else (y / z) else if x = (-22) then (y * z) else if x = (-21) then (y - z) else if x = (-20) then (y + z) else if y = 0 then if z = 0 then 0 else 1 else 1
set_option maxHeartbeats 4000000 in
set_option maxRecDepth 100000 in
theorem c_X13_reckon (l : Launch) (D : va_G) (cB cI cJ : ClassId) (ad : Nat → Nat) (n : Nat) (M : Nat → va_E) (x : Int32) (y : Int32) (z : Int32)    : cR l D cB cI cJ ad n M yX13_reckon wsX13_reckon 0 0 [.int x, .int y, .int z] (s_X13_reckon x y z) := by
  refine q_body (cc := cX13_reckon) (maxL := 3) (ret := (some .int)) (by decide) rfl (Nat.le_of_ble_eq_true rfl) ?_
  intro p e s m args below meth c ls X hr hlocks hK hP hl
  obtain ⟨hx, hb, hml, hown, hts⟩ := id X
  have hS : va_S (ipA ad n) s.heap s.heap [] := va_S.rf
  have hl : lv_has ls 3 [(0, .int x), (1, .int y), (2, .int z)] := hl
  refine lv_iload_n hx hb dX13_reckon_0 rfl (lv_at hl 0 rfl) ?_
  by_cases c_1_0 : x = (-26)
  · refine lv_tableIn (off := 89) (tgt := 90) hx hb dX13_reckon_1 (by rw [c_1_0]; decide) (by rw [c_1_0]; decide) (by rw [c_1_0]; decide) (by decide) ?_
    refine lv_iload_n hx hb dX13_reckon_90 rfl (lv_at hl 1 rfl) ?_
    refine lv_if_eq (tgt := 102) hx hb dX13_reckon_91 (by decide) (fun c_91 => ?_) (fun c_91 => ?_)
    · skip
      refine lv_iconst (v := 0) hx hb dX13_reckon_102 (by decide) ?_
      exact q_iret hb hx hr hlocks (by rw [s_X13_reckon, if_pos c_1_0, if_pos c_91]) dX13_reckon_103
    · skip
      refine lv_iload_n hx hb dX13_reckon_94 rfl (lv_at hl 2 rfl) ?_
      refine lv_if_eq (tgt := 102) hx hb dX13_reckon_95 (by decide) (fun c_95 => ?_) (fun c_95 => ?_)
      · skip
        refine lv_iconst (v := 0) hx hb dX13_reckon_102 (by decide) ?_
        exact q_iret hb hx hr hlocks (by rw [s_X13_reckon, if_pos c_1_0, if_neg c_91, if_pos c_95]) dX13_reckon_103
      · skip
        refine lv_iconst (v := 1) hx hb dX13_reckon_98 (by decide) ?_
        refine lv_goto (tgt := 103) hx hb dX13_reckon_99 (by decide) ?_
        exact q_iret hb hx hr hlocks (by rw [s_X13_reckon, if_pos c_1_0, if_neg c_91, if_neg c_95]) dX13_reckon_103
  by_cases c_1_1 : x = (-25)
  · refine lv_tableIn (off := 78) (tgt := 79) hx hb dX13_reckon_1 (by rw [c_1_1]; decide) (by rw [c_1_1]; decide) (by rw [c_1_1]; decide) (by decide) ?_
    refine lv_iload_n hx hb dX13_reckon_79 rfl (lv_at hl 1 rfl) ?_
    refine lv_iload_n hx hb dX13_reckon_80 rfl (lv_at hl 2 rfl) ?_
    refine lv_icmp_ne (tgt := 88) hx hb dX13_reckon_81 (by decide) (fun c_81 => ?_) (fun c_81 => ?_)
    · skip
      refine lv_iconst (v := 0) hx hb dX13_reckon_88 (by decide) ?_
      exact q_iret hb hx hr hlocks (by rw [s_X13_reckon, if_neg c_1_0, if_pos c_1_1, if_neg c_81]) dX13_reckon_89
    · skip
      refine lv_iconst (v := 1) hx hb dX13_reckon_84 (by decide) ?_
      refine lv_goto (tgt := 89) hx hb dX13_reckon_85 (by decide) ?_
      exact q_iret hb hx hr hlocks (by rw [s_X13_reckon, if_neg c_1_0, if_pos c_1_1, if_pos c_81]) dX13_reckon_89
  by_cases c_1_2 : x = (-24)
  · refine lv_tableIn (off := 67) (tgt := 68) hx hb dX13_reckon_1 (by rw [c_1_2]; decide) (by rw [c_1_2]; decide) (by rw [c_1_2]; decide) (by decide) ?_
    refine lv_iload_n hx hb dX13_reckon_68 rfl (lv_at hl 1 rfl) ?_
    refine lv_iload_n hx hb dX13_reckon_69 rfl (lv_at hl 2 rfl) ?_
    refine lv_icmp_ge (tgt := 77) hx hb dX13_reckon_70 (by decide) (fun c_70 => ?_) (fun c_70 => ?_)
    · skip
      refine lv_iconst (v := 0) hx hb dX13_reckon_77 (by decide) ?_
      exact q_iret hb hx hr hlocks (by rw [s_X13_reckon, if_neg c_1_0, if_neg c_1_1, if_pos c_1_2, if_pos c_70]) dX13_reckon_78
    · skip
      refine lv_iconst (v := 1) hx hb dX13_reckon_73 (by decide) ?_
      refine lv_goto (tgt := 78) hx hb dX13_reckon_74 (by decide) ?_
      exact q_iret hb hx hr hlocks (by rw [s_X13_reckon, if_neg c_1_0, if_neg c_1_1, if_pos c_1_2, if_neg c_70]) dX13_reckon_78
  by_cases c_1_3 : x = (-23)
  · refine lv_tableIn (off := 55) (tgt := 56) hx hb dX13_reckon_1 (by rw [c_1_3]; decide) (by rw [c_1_3]; decide) (by rw [c_1_3]; decide) (by decide) ?_
    refine lv_iload_n hx hb dX13_reckon_56 rfl (lv_at hl 2 rfl) ?_
    refine lv_if_ne (tgt := 64) hx hb dX13_reckon_57 (by decide) (fun c_57 => ?_) (fun c_57 => ?_)
    · skip
      refine lv_iload_n hx hb dX13_reckon_64 rfl (lv_at hl 1 rfl) ?_
      refine lv_iload_n hx hb dX13_reckon_65 rfl (lv_at hl 2 rfl) ?_
      refine lv_idiv hx hb dX13_reckon_66 (c_57) ?_
      exact q_iret hb hx hr hlocks (by rw [s_X13_reckon, if_neg c_1_0, if_neg c_1_1, if_neg c_1_2, if_pos c_1_3, if_neg c_57]) dX13_reckon_67
    · skip
      refine lv_iconst (v := 0) hx hb dX13_reckon_60 (by decide) ?_
      refine lv_goto (tgt := 67) hx hb dX13_reckon_61 (by decide) ?_
      exact q_iret hb hx hr hlocks (by rw [s_X13_reckon, if_neg c_1_0, if_neg c_1_1, if_neg c_1_2, if_pos c_1_3, if_pos c_57]) dX13_reckon_67
  by_cases c_1_4 : x = (-22)
  · refine lv_tableIn (off := 51) (tgt := 52) hx hb dX13_reckon_1 (by rw [c_1_4]; decide) (by rw [c_1_4]; decide) (by rw [c_1_4]; decide) (by decide) ?_
    refine lv_iload_n hx hb dX13_reckon_52 rfl (lv_at hl 1 rfl) ?_
    refine lv_iload_n hx hb dX13_reckon_53 rfl (lv_at hl 2 rfl) ?_
    refine lv_imul hx hb dX13_reckon_54 ?_
    exact q_iret hb hx hr hlocks (by rw [s_X13_reckon, if_neg c_1_0, if_neg c_1_1, if_neg c_1_2, if_neg c_1_3, if_pos c_1_4]) dX13_reckon_55
  by_cases c_1_5 : x = (-21)
  · refine lv_tableIn (off := 47) (tgt := 48) hx hb dX13_reckon_1 (by rw [c_1_5]; decide) (by rw [c_1_5]; decide) (by rw [c_1_5]; decide) (by decide) ?_
    refine lv_iload_n hx hb dX13_reckon_48 rfl (lv_at hl 1 rfl) ?_
    refine lv_iload_n hx hb dX13_reckon_49 rfl (lv_at hl 2 rfl) ?_
    refine lv_isub hx hb dX13_reckon_50 ?_
    exact q_iret hb hx hr hlocks (by rw [s_X13_reckon, if_neg c_1_0, if_neg c_1_1, if_neg c_1_2, if_neg c_1_3, if_neg c_1_4, if_pos c_1_5]) dX13_reckon_51
  by_cases c_1_6 : x = (-20)
  · refine lv_tableIn (off := 43) (tgt := 44) hx hb dX13_reckon_1 (by rw [c_1_6]; decide) (by rw [c_1_6]; decide) (by rw [c_1_6]; decide) (by decide) ?_
    refine lv_iload_n hx hb dX13_reckon_44 rfl (lv_at hl 1 rfl) ?_
    refine lv_iload_n hx hb dX13_reckon_45 rfl (lv_at hl 2 rfl) ?_
    refine lv_iadd hx hb dX13_reckon_46 ?_
    exact q_iret hb hx hr hlocks (by rw [s_X13_reckon, if_neg c_1_0, if_neg c_1_1, if_neg c_1_2, if_neg c_1_3, if_neg c_1_4, if_neg c_1_5, if_pos c_1_6]) dX13_reckon_47
  have n_0 := lv_neT (a := -26) c_1_0 (by decide); have n_1 := lv_neT (a := -25) c_1_1 (by decide); have n_2 := lv_neT (a := -24) c_1_2 (by decide); have n_3 := lv_neT (a := -23) c_1_3 (by decide); have n_4 := lv_neT (a := -22) c_1_4 (by decide); have n_5 := lv_neT (a := -21) c_1_5 (by decide); have n_6 := lv_neT (a := -20) c_1_6 (by decide)
  refine lv_tableOut (tgt := 104) hx hb dX13_reckon_1 (by omega) (by decide) ?_
  refine lv_iload_n hx hb dX13_reckon_104 rfl (lv_at hl 1 rfl) ?_
  refine lv_if_ne (tgt := 112) hx hb dX13_reckon_105 (by decide) (fun c_105 => ?_) (fun c_105 => ?_)
  · skip
    refine lv_iconst (v := 1) hx hb dX13_reckon_112 (by decide) ?_
    refine lv_goto (tgt := 117) hx hb dX13_reckon_113 (by decide) ?_
    exact q_iret hb hx hr hlocks (by rw [s_X13_reckon, if_neg c_1_0, if_neg c_1_1, if_neg c_1_2, if_neg c_1_3, if_neg c_1_4, if_neg c_1_5, if_neg c_1_6, if_neg c_105]) dX13_reckon_117
  · skip
    refine lv_iload_n hx hb dX13_reckon_108 rfl (lv_at hl 2 rfl) ?_
    refine lv_if_eq (tgt := 116) hx hb dX13_reckon_109 (by decide) (fun c_109 => ?_) (fun c_109 => ?_)
    · skip
      refine lv_iconst (v := 0) hx hb dX13_reckon_116 (by decide) ?_
      exact q_iret hb hx hr hlocks (by rw [s_X13_reckon, if_neg c_1_0, if_neg c_1_1, if_neg c_1_2, if_neg c_1_3, if_neg c_1_4, if_neg c_1_5, if_neg c_1_6, if_pos c_105, if_pos c_109]) dX13_reckon_117
    · skip
      refine lv_iconst (v := 1) hx hb dX13_reckon_112 (by decide) ?_
      refine lv_goto (tgt := 117) hx hb dX13_reckon_113 (by decide) ?_
      exact q_iret hb hx hr hlocks (by rw [s_X13_reckon, if_neg c_1_0, if_neg c_1_1, if_neg c_1_2, if_neg c_1_3, if_neg c_1_4, if_neg c_1_5, if_neg c_1_6, if_pos c_105, if_neg c_109]) dX13_reckon_117
def hgM (f : Nat → Int32) : Nat → Int32
  | 0 => 0
  | t + 1 => if f t ≤ -20 then (if f t = -28 then hgM f t else hgM f t + (-1)) else hgM f t + 1
def vmS (a : Nat → Int32) (n s : Int32) (sf : Nat → Int32) : Nat → Int32 :=
  if s ≤ -20 then (if s = -28 then upd sf (n - 1).toNatClampNeg (if sf (n - 1).toNatClampNeg = 0 then 1 else 0) else upd sf (n + (-1) - 1).toNatClampNeg (s_X13_reckon s (sf (n + (-1) - 1).toNatClampNeg) (sf (n + (-1)).toNatClampNeg)))
  else upd sf n.toNatClampNeg (if s < 0 then a (-1 - s).toNatClampNeg else s)
def vmN (a f sf : Nat → Int32) : Nat → (Nat → Int32)
  | 0 => sf
  | t + 1 => vmS a (hgM f t) (f t) (vmN a f sf t)
/-- no part of the rule goes beyond the stack -/
def mOK (f : Nat → Int32) (ns : Nat) : Prop := ∀ t : Nat, t < ns → (f t ≤ -20 → f t = -28 → vp_in (hgM f t - 1) 64) ∧ (f t ≤ -20 → ¬ f t = -28 → vp_in (hgM f t + (-1) - 1) 64 ∧ vp_in (hgM f t + (-1)) 64) ∧ (¬ f t ≤ -20 → vp_in (hgM f t) 64 ∧ (f t < 0 → vp_in (-1 - f t) 5))
def asks (a : Nat → Int32) (ov w li th bo : Int32) : Nat → Int32 := upd (upd (upd (upd (upd a 0 ov) 1 w) 2 li) 3 th) 4 bo
def feeM (ns : Nat) (f : Nat → Int32) (ov w li th bo : Int32) : Int32 := vmN (asks (fun _ => 0) ov w li th bo) f (fun _ => 0) ns 0
/-- the rule doesn't look at what was there ahead -/
def mRule (f : Nat → Int32) (ns : Nat) : Prop := ∀ (a sf : Nat → Int32) (ov w li th bo : Int32), ¬ ns = 0 → vmN (asks a ov w li th bo) f sf ns 0 = feeM ns f ov w li th bo
def feeByS (ns : Nat) (to f lim bo : Nat → Int32) (x y z : Int32) : Int32 :=
  if imax 0 (y - lim x.toNatClampNeg) = 0 then 0 else if to 6 = 0 then imin 9999 (10 * imax 0 (y - lim x.toNatClampNeg)) else imax 0 (imin 9999 (feeM ns f (imax 0 (y - lim x.toNatClampNeg)) y (lim x.toNatClampNeg) z (bo x.toNatClampNeg)))
set_option maxRecDepth 20000 in
theorem fX13_valueNow_40 : FL wsX13_valueNow RX13 40 12 3 := ⟨RX13, TX13, 67, rfl, by decide +kernel, by decide, by decide +kernel⟩
set_option maxRecDepth 20000 in
theorem fX13_valueNow_109 : FL wsX13_valueNow RX13 109 12 35 := ⟨RX13, TX13, 67, rfl, by decide +kernel, by decide, by decide +kernel⟩
set_option maxRecDepth 20000 in
theorem fX13_valueNow_93 : FL wsX13_valueNow RX13 93 12 21 := ⟨RX13, TX13, 67, rfl, by decide +kernel, by decide, by decide +kernel⟩
theorem yd_X13_reckon : YD yX13_reckon 3 := ⟨by decide +kernel, by decide +kernel, by decide +kernel⟩
set_option maxRecDepth 20000 in
theorem fX13_valueNow_106 : FL wsX13_valueNow RX13 106 12 34 := ⟨RX13, TX13, 67, rfl, by decide +kernel, by decide, by decide +kernel⟩
set_option maxHeartbeats 4000000 in
set_option maxRecDepth 100000 in
theorem c_X13_valueNow (l : Launch) (D : va_G) (cB cI cJ : ClassId) (ad : Nat → Nat) (n : Nat) (M : Nat → va_E) (hI : ipI ad n) (mb : Nat) (nt : Nat) (nc : Nat) (np : Nat) (nq : Nat) (mv : Nat → Int32) (toldF : Nat → Int32) (signsF : Nat → Int32) (askedF : Nat → Int32) (stackF : Nat → Int32) (ns : Nat) (h_mb : mb < n) (h_mb_3 : mb + 3 < n) (h_mb_21 : mb + 21 < n) (h_mb_24 : mb + 24 < n) (h_mb_25 : mb + 25 < n) (m_mb : M mb = .inr (12, modF ad mb mv)) (m_mb_3 : M (mb + 3) = .inl (cI, 14, .inl toldF)) (m_mb_21 : M (mb + 21) = .inl (cI, 1400, .inl signsF)) (m_mb_24 : M (mb + 24) = .inl (cI, 5, .inl askedF)) (m_mb_25 : M (mb + 25) = .inl (cI, 64, .inl stackF)) (k0 : toldF 0 = nI np) (hnp : np ≤ 4) (k1 : toldF 1 = nI nc) (hnc : nc ≤ 5) (k2 : toldF 2 = nI nt) (hnt : nt ≤ 12) (k3 : toldF 3 = nI nq) (hnq : nq ≤ 6) (k6 : toldF 6 = nI ns) (hns : ns ≤ 700) (hMK : mOK signsF ns) : cWi l D cB cI cJ ad n M yX13_valueNow wsX13_valueNow 1 22 [.ref (ad mb)] (fun r M' => r = vmN askedF signsF stackF ns 0 ∧ M' (mb + 25) = .inl (cI, 64, .inl (vmN askedF signsF stackF ns)) ∧ ∀ q : Nat, q ≠ mb + 25 → M' q = M q) := by
  refine q_body (cc := cX13_valueNow) (maxL := 4) (ret := (some .int)) (by decide) rfl (Nat.le_of_ble_eq_true rfl) ?_
  intro p e s m args below meth c ls X hr hlocks hK hP hl
  obtain ⟨hx, hb, hml, hown, hts⟩ := id X
  have hS : va_S (ipA ad n) s.heap s.heap [] := va_S.rf
  have hl : lv_has ls 4 [(0, .ref (ad mb))] := hl
  refine lv_iconst (v := 0) hx hb dX13_valueNow_0 (by decide) ?_
  refine lv_istore_n (lv' := [(1, .int 0), (0, .ref (ad mb))]) hx hb dX13_valueNow_1 rfl hl (by decide) rfl (fun ls hl => ?_)
  refine lv_iconst (v := 0) hx hb dX13_valueNow_2 (by decide) ?_
  refine lv_istore_n (lv' := [(2, .int 0), (1, .int 0), (0, .ref (ad mb))]) hx hb dX13_valueNow_3 rfl hl (by decide) rfl (fun ls hl => ?_)
  have loop_4 : ∀ (fuel : Nat) (t : Nat) (x1 : Int32) (x2 : Int32), ns - t < fuel → (t ≤ ns) → x1 = hgM signsF t → x2 = nI t → ∀ (ML4 : Nat → va_E) (H : Heap) (locs : List Loc), ML4 (mb + 25) = .inl (cI, 64, .inl (vmN askedF signsF stackF t)) → (∀ q : Nat, q ≠ mb + 25 → ML4 q = M q) → va_P D vwCl (ip ad n ML4) H → va_S (ipA ad n) s.heap H locs → ∀ (ls : Array Slot), lv_has ls 4 [(0, .ref (ad mb)), (1, .int x1), (2, .int x2)] → W p l e (rmOf 1 22) s m args below meth c H locs 0 0 (MQ below (va_Qi (fun r M' => r = vmN askedF signsF stackF ns 0 ∧ M' (mb + 25) = .inl (cI, 64, .inl (vmN askedF signsF stackF ns)) ∧ ∀ q : Nat, q ≠ mb + 25 → M' q = M q) (fun M' t => va_P D vwCl (ip ad n M') t.heap) (ipA ad n)) args s 0 0 (ipA ad n)) (F0 m 4 ls []) := by
    intro fuel
    induction fuel with
    | zero =>
      intro t x1 x2 hz
      exact absurd hz (Nat.not_lt_zero _)
    | succ fuel ih_4 =>
      intro t x1 x2 hz_4 ht e1 e2 ML4 H locs mL4_0 fL4 hP hS ls hl
      subst e1
      subst e2
      skip
      refine lv_iload_n hx hb dX13_valueNow_4 rfl (lv_at hl 2 rfl) ?_
      refine lv_aload_n hx hb dX13_valueNow_5 rfl (lv_at hl 0 rfl) ?_
      refine q_get (v := .ref (ad (mb + 3))) (fs := modF ad mb mv) X hK hP fX13_valueNow_40 h_mb ((fL4 mb (by omega)).trans m_mb) rfl dX13_valueNow_6 ?_
      refine lv_bipush (v := 6) hx hb dX13_valueNow_9 (by decide) ?_
      refine q_ialdN (f := toldF) (k := 14) X hK hP 6 h_mb_3 ((fL4 (mb + 3) (by omega)).trans m_mb_3) (by decide) (by decide) dX13_valueNow_11 ?_
      refine lv_icmp_ge (tgt := 124) hx hb dX13_valueNow_12 (by decide) (fun c_12 => ?_) (fun c_12 => ?_)
      · skip
        rw [k6] at c_12; have h9 : t = ns := eq_of_le c_12 (by omega) ht
        refine lv_aload_n hx hb dX13_valueNow_124 rfl (lv_at hl 0 rfl) ?_
        refine q_get (v := .ref (ad (mb + 25))) (fs := modF ad mb mv) X hK hP fX13_valueNow_109 h_mb ((fL4 mb (by omega)).trans m_mb) rfl dX13_valueNow_125 ?_
        refine lv_iconst (v := 0) hx hb dX13_valueNow_128 (by decide) ?_
        refine q_ialdN (f := (vmN askedF signsF stackF t)) (k := 64) X hK hP 0 h_mb_25 mL4_0 (by decide) (by decide) dX13_valueNow_129 ?_
        exact q_wzret X hr hlocks hP hS (rfl) ⟨(by rw [h9]), (by rw [← h9]; exact mL4_0), (fun q n0 => (fL4 q n0))⟩ dX13_valueNow_130
      · skip
        rw [k6] at c_12; have h9 : t < ns := lt_of_nlt c_12 (by omega) ht
        refine lv_aload_n hx hb dX13_valueNow_15 rfl (lv_at hl 0 rfl) ?_
        refine q_get (v := .ref (ad (mb + 21))) (fs := modF ad mb mv) X hK hP fX13_valueNow_93 h_mb ((fL4 mb (by omega)).trans m_mb) rfl dX13_valueNow_16 ?_
        refine lv_iload_n hx hb dX13_valueNow_19 rfl (lv_at hl 2 rfl) ?_
        refine q_ialdN (f := signsF) (k := 1400) X hK hP t h_mb_21 ((fL4 (mb + 21) (by omega)).trans m_mb_21) (by omega) (by decide) dX13_valueNow_20 ?_
        refine lv_istore_n (lv' := [(3, .int (signsF t)), (0, .ref (ad mb)), (1, .int (hgM signsF t)), (2, .int (nI t))]) hx hb dX13_valueNow_21 rfl hl (by decide) rfl (fun ls hl => ?_)
        refine lv_iload_n hx hb dX13_valueNow_22 rfl (lv_at hl 0 rfl) ?_
        refine lv_bipush (v := (-20)) hx hb dX13_valueNow_23 (by decide) ?_
        refine lv_icmp_le (tgt := 56) hx hb dX13_valueNow_25 (by decide) (fun c_25 => ?_) (fun c_25 => ?_)
        · skip
          refine lv_iload_n hx hb dX13_valueNow_56 rfl (lv_at hl 0 rfl) ?_
          refine lv_bipush (v := (-28)) hx hb dX13_valueNow_57 (by decide) ?_
          refine lv_icmp_ne (tgt := 89) hx hb dX13_valueNow_59 (by decide) (fun c_59 => ?_) (fun c_59 => ?_)
          · skip
            refine lv_iinc (v := ((hgM signsF t) + (-1))) (lv' := [(1, .int ((hgM signsF t) + (-1))), (3, .int (signsF t)), (0, .ref (ad mb)), (2, .int (nI t))]) hx hb dX13_valueNow_89 hl (k := 2) rfl rfl (by decide) rfl (fun ls hl => ?_)
            refine lv_aload_n hx hb dX13_valueNow_92 rfl (lv_at hl 2 rfl) ?_
            refine q_get (v := .ref (ad (mb + 25))) (fs := modF ad mb mv) X hK hP fX13_valueNow_109 h_mb ((fL4 mb (by omega)).trans m_mb) rfl dX13_valueNow_93 ?_
            refine lv_iload_n hx hb dX13_valueNow_96 rfl (lv_at hl 0 rfl) ?_
            refine lv_iconst (v := 1) hx hb dX13_valueNow_97 (by decide) ?_
            refine lv_isub hx hb dX13_valueNow_98 ?_
            refine lv_iload_n hx hb dX13_valueNow_99 rfl (lv_at hl 1 rfl) ?_
            refine lv_aload_n hx hb dX13_valueNow_100 rfl (lv_at hl 2 rfl) ?_
            refine q_get (v := .ref (ad (mb + 25))) (fs := modF ad mb mv) X hK hP fX13_valueNow_109 h_mb ((fL4 mb (by omega)).trans m_mb) rfl dX13_valueNow_101 ?_
            refine lv_iload_n hx hb dX13_valueNow_104 rfl (lv_at hl 0 rfl) ?_
            refine lv_iconst (v := 1) hx hb dX13_valueNow_105 (by decide) ?_
            refine lv_isub hx hb dX13_valueNow_106 ?_
            refine q_iald (f := (vmN askedF signsF stackF t)) (k := 64) X hK hP h_mb_25 mL4_0 (((hMK t h9).2.1 c_25 c_59).1) dX13_valueNow_107 ?_
            refine lv_aload_n hx hb dX13_valueNow_108 rfl (lv_at hl 2 rfl) ?_
            refine q_get (v := .ref (ad (mb + 25))) (fs := modF ad mb mv) X hK hP fX13_valueNow_109 h_mb ((fL4 mb (by omega)).trans m_mb) rfl dX13_valueNow_109 ?_
            refine lv_iload_n hx hb dX13_valueNow_112 rfl (lv_at hl 0 rfl) ?_
            refine q_iald (f := (vmN askedF signsF stackF t)) (k := 64) X hK hP h_mb_25 mL4_0 (((hMK t h9).2.1 c_25 c_59).2) dX13_valueNow_113 ?_
            refine q_rdS (As := [.int (signsF t), .int ((vmN askedF signsF stackF t) (((hgM signsF t) + (-1)) - 1).toNatClampNeg), .int ((vmN askedF signsF stackF t) ((hgM signsF t) + (-1)).toNatClampNeg)]) (rest := [.int (((hgM signsF t) + (-1)) - 1), .ref (ad (mb + 25))]) (c_X13_reckon l D cB cI cJ ad n ML4 (signsF t) ((vmN askedF signsF stackF t) (((hgM signsF t) + (-1)) - 1).toNatClampNeg) ((vmN askedF signsF stackF t) ((hgM signsF t) + (-1)).toNatClampNeg)   ) X hK hP hS hl.1 rfl gX13_valueNow_X13_reckon yd_X13_reckon ⟨Nat.le_of_ble_eq_true rfl, Nat.le_of_ble_eq_true rfl⟩ rfl (Nat.le_of_ble_eq_true rfl) ⟨Nat.zero_le _, Nat.zero_le _⟩ dX13_valueNow_114 ?_
            refine q_iast (f := (vmN askedF signsF stackF t)) (k := 64) X hK hI hP hS h_mb_25 mL4_0 (((hMK t h9).2.1 c_25 c_59).1) dX13_valueNow_117 (fun H locs hP hS => ?_)
            refine lv_iinc (v := ((nI t) + 1)) (lv' := [(2, .int ((nI t) + 1)), (1, .int ((hgM signsF t) + (-1))), (3, .int (signsF t)), (0, .ref (ad mb))]) hx hb dX13_valueNow_118 hl (k := 3) rfl rfl (by decide) rfl (fun ls hl => ?_)
            refine lv_goto (tgt := 4) hx hb dX13_valueNow_121 (by decide) ?_
            exact ih_4 (t + 1) ((hgM signsF t) + (-1)) ((nI t) + 1) (by omega) (by omega) (by first | (rw [hgM, if_neg c_25]; done) | (rw [hgM, if_pos c_25, if_pos c_59]; done) | (rw [hgM, if_pos c_25, if_neg c_59]; done)) (by exact nI_1 _) _ _ _ (by refine (va_up_self ML4 (mb + 25) (.inl (cI, 64, .inl (upd (vmN askedF signsF stackF t) (((hgM signsF t) + (-1)) - 1).toNatClampNeg (s_X13_reckon (signsF t) ((vmN askedF signsF stackF t) (((hgM signsF t) + (-1)) - 1).toNatClampNeg) ((vmN askedF signsF stackF t) ((hgM signsF t) + (-1)).toNatClampNeg)))))).trans ?_; first | (rw [vmN, vmS, if_neg c_25, if_pos c_34]; done) | (rw [vmN, vmS, if_neg c_25, if_neg c_34]; done) | (rw [vmN, vmS, if_pos c_25, if_pos c_59, if_pos c_77]; done) | (rw [vmN, vmS, if_pos c_25, if_pos c_59, if_neg c_77]; done) | (rw [vmN, vmS, if_pos c_25, if_neg c_59]; done)) (fun q n0 => ((va_up_ne _ _ n0).trans (fL4 q n0))) hP hS ls (lv_sub hl [3, 1, 0] rfl)
          · skip
            refine lv_aload_n hx hb dX13_valueNow_62 rfl (lv_at hl 1 rfl) ?_
            refine q_get (v := .ref (ad (mb + 25))) (fs := modF ad mb mv) X hK hP fX13_valueNow_109 h_mb ((fL4 mb (by omega)).trans m_mb) rfl dX13_valueNow_63 ?_
            refine lv_iload_n hx hb dX13_valueNow_66 rfl (lv_at hl 2 rfl) ?_
            refine lv_iconst (v := 1) hx hb dX13_valueNow_67 (by decide) ?_
            refine lv_isub hx hb dX13_valueNow_68 ?_
            refine lv_aload_n hx hb dX13_valueNow_69 rfl (lv_at hl 1 rfl) ?_
            refine q_get (v := .ref (ad (mb + 25))) (fs := modF ad mb mv) X hK hP fX13_valueNow_109 h_mb ((fL4 mb (by omega)).trans m_mb) rfl dX13_valueNow_70 ?_
            refine lv_iload_n hx hb dX13_valueNow_73 rfl (lv_at hl 2 rfl) ?_
            refine lv_iconst (v := 1) hx hb dX13_valueNow_74 (by decide) ?_
            refine lv_isub hx hb dX13_valueNow_75 ?_
            refine q_iald (f := (vmN askedF signsF stackF t)) (k := 64) X hK hP h_mb_25 mL4_0 ((hMK t h9).1 c_25 c_59) dX13_valueNow_76 ?_
            refine lv_if_eq (tgt := 84) hx hb dX13_valueNow_77 (by decide) (fun c_77 => ?_) (fun c_77 => ?_)
            · skip
              refine lv_iconst (v := 1) hx hb dX13_valueNow_84 (by decide) ?_
              refine q_iast (f := (vmN askedF signsF stackF t)) (k := 64) X hK hI hP hS h_mb_25 mL4_0 ((hMK t h9).1 c_25 c_59) dX13_valueNow_85 (fun H locs hP hS => ?_)
              refine lv_goto (tgt := 118) hx hb dX13_valueNow_86 (by decide) ?_
              refine lv_iinc (v := ((nI t) + 1)) (lv' := [(2, .int ((nI t) + 1)), (3, .int (signsF t)), (0, .ref (ad mb)), (1, .int (hgM signsF t))]) hx hb dX13_valueNow_118 hl (k := 3) rfl rfl (by decide) rfl (fun ls hl => ?_)
              refine lv_goto (tgt := 4) hx hb dX13_valueNow_121 (by decide) ?_
              exact ih_4 (t + 1) (hgM signsF t) ((nI t) + 1) (by omega) (by omega) (by first | (rw [hgM, if_neg c_25]; done) | (rw [hgM, if_pos c_25, if_pos c_59]; done) | (rw [hgM, if_pos c_25, if_neg c_59]; done)) (by exact nI_1 _) _ _ _ (by refine (va_up_self ML4 (mb + 25) (.inl (cI, 64, .inl (upd (vmN askedF signsF stackF t) ((hgM signsF t) - 1).toNatClampNeg 1)))).trans ?_; first | (rw [vmN, vmS, if_neg c_25, if_pos c_34]; done) | (rw [vmN, vmS, if_neg c_25, if_neg c_34]; done) | (rw [vmN, vmS, if_pos c_25, if_pos c_59, if_pos c_77]; done) | (rw [vmN, vmS, if_pos c_25, if_pos c_59, if_neg c_77]; done) | (rw [vmN, vmS, if_pos c_25, if_neg c_59]; done)) (fun q n0 => ((va_up_ne _ _ n0).trans (fL4 q n0))) hP hS ls (lv_sub hl [2, 3, 0] rfl)
            · skip
              refine lv_iconst (v := 0) hx hb dX13_valueNow_80 (by decide) ?_
              refine lv_goto (tgt := 85) hx hb dX13_valueNow_81 (by decide) ?_
              refine q_iast (f := (vmN askedF signsF stackF t)) (k := 64) X hK hI hP hS h_mb_25 mL4_0 ((hMK t h9).1 c_25 c_59) dX13_valueNow_85 (fun H locs hP hS => ?_)
              refine lv_goto (tgt := 118) hx hb dX13_valueNow_86 (by decide) ?_
              refine lv_iinc (v := ((nI t) + 1)) (lv' := [(2, .int ((nI t) + 1)), (3, .int (signsF t)), (0, .ref (ad mb)), (1, .int (hgM signsF t))]) hx hb dX13_valueNow_118 hl (k := 3) rfl rfl (by decide) rfl (fun ls hl => ?_)
              refine lv_goto (tgt := 4) hx hb dX13_valueNow_121 (by decide) ?_
              exact ih_4 (t + 1) (hgM signsF t) ((nI t) + 1) (by omega) (by omega) (by first | (rw [hgM, if_neg c_25]; done) | (rw [hgM, if_pos c_25, if_pos c_59]; done) | (rw [hgM, if_pos c_25, if_neg c_59]; done)) (by exact nI_1 _) _ _ _ (by refine (va_up_self ML4 (mb + 25) (.inl (cI, 64, .inl (upd (vmN askedF signsF stackF t) ((hgM signsF t) - 1).toNatClampNeg 0)))).trans ?_; first | (rw [vmN, vmS, if_neg c_25, if_pos c_34]; done) | (rw [vmN, vmS, if_neg c_25, if_neg c_34]; done) | (rw [vmN, vmS, if_pos c_25, if_pos c_59, if_pos c_77]; done) | (rw [vmN, vmS, if_pos c_25, if_pos c_59, if_neg c_77]; done) | (rw [vmN, vmS, if_pos c_25, if_neg c_59]; done)) (fun q n0 => ((va_up_ne _ _ n0).trans (fL4 q n0))) hP hS ls (lv_sub hl [2, 3, 0] rfl)
        · skip
          refine lv_aload_n hx hb dX13_valueNow_28 rfl (lv_at hl 1 rfl) ?_
          refine q_get (v := .ref (ad (mb + 25))) (fs := modF ad mb mv) X hK hP fX13_valueNow_109 h_mb ((fL4 mb (by omega)).trans m_mb) rfl dX13_valueNow_29 ?_
          refine lv_iload_n hx hb dX13_valueNow_32 rfl (lv_at hl 2 rfl) ?_
          refine lv_iload_n hx hb dX13_valueNow_33 rfl (lv_at hl 0 rfl) ?_
          refine lv_if_lt (tgt := 41) hx hb dX13_valueNow_34 (by decide) (fun c_34 => ?_) (fun c_34 => ?_)
          · skip
            refine lv_aload_n hx hb dX13_valueNow_41 rfl (lv_at hl 1 rfl) ?_
            refine q_get (v := .ref (ad (mb + 24))) (fs := modF ad mb mv) X hK hP fX13_valueNow_106 h_mb ((fL4 mb (by omega)).trans m_mb) rfl dX13_valueNow_42 ?_
            refine lv_iconst (v := (-1)) hx hb dX13_valueNow_45 (by decide) ?_
            refine lv_iload_n hx hb dX13_valueNow_46 rfl (lv_at hl 0 rfl) ?_
            refine lv_isub hx hb dX13_valueNow_47 ?_
            refine q_iald (f := askedF) (k := 5) X hK hP h_mb_24 ((fL4 (mb + 24) (by omega)).trans m_mb_24) (((hMK t h9).2.2 c_25).2 c_34) dX13_valueNow_48 ?_
            refine q_iast (f := (vmN askedF signsF stackF t)) (k := 64) X hK hI hP hS h_mb_25 mL4_0 (((hMK t h9).2.2 c_25).1) dX13_valueNow_49 (fun H locs hP hS => ?_)
            refine lv_iinc (v := ((hgM signsF t) + 1)) (lv' := [(1, .int ((hgM signsF t) + 1)), (3, .int (signsF t)), (0, .ref (ad mb)), (2, .int (nI t))]) hx hb dX13_valueNow_50 hl (k := 2) rfl rfl (by decide) rfl (fun ls hl => ?_)
            refine lv_goto (tgt := 118) hx hb dX13_valueNow_53 (by decide) ?_
            refine lv_iinc (v := ((nI t) + 1)) (lv' := [(2, .int ((nI t) + 1)), (1, .int ((hgM signsF t) + 1)), (3, .int (signsF t)), (0, .ref (ad mb))]) hx hb dX13_valueNow_118 hl (k := 3) rfl rfl (by decide) rfl (fun ls hl => ?_)
            refine lv_goto (tgt := 4) hx hb dX13_valueNow_121 (by decide) ?_
            exact ih_4 (t + 1) ((hgM signsF t) + 1) ((nI t) + 1) (by omega) (by omega) (by first | (rw [hgM, if_neg c_25]; done) | (rw [hgM, if_pos c_25, if_pos c_59]; done) | (rw [hgM, if_pos c_25, if_neg c_59]; done)) (by exact nI_1 _) _ _ _ (by refine (va_up_self ML4 (mb + 25) (.inl (cI, 64, .inl (upd (vmN askedF signsF stackF t) (hgM signsF t).toNatClampNeg (askedF ((-1) - (signsF t)).toNatClampNeg))))).trans ?_; first | (rw [vmN, vmS, if_neg c_25, if_pos c_34]; done) | (rw [vmN, vmS, if_neg c_25, if_neg c_34]; done) | (rw [vmN, vmS, if_pos c_25, if_pos c_59, if_pos c_77]; done) | (rw [vmN, vmS, if_pos c_25, if_pos c_59, if_neg c_77]; done) | (rw [vmN, vmS, if_pos c_25, if_neg c_59]; done)) (fun q n0 => ((va_up_ne _ _ n0).trans (fL4 q n0))) hP hS ls (lv_sub hl [3, 1, 0] rfl)
          · skip
            refine lv_iload_n hx hb dX13_valueNow_37 rfl (lv_at hl 0 rfl) ?_
            refine lv_goto (tgt := 49) hx hb dX13_valueNow_38 (by decide) ?_
            refine q_iast (f := (vmN askedF signsF stackF t)) (k := 64) X hK hI hP hS h_mb_25 mL4_0 (((hMK t h9).2.2 c_25).1) dX13_valueNow_49 (fun H locs hP hS => ?_)
            refine lv_iinc (v := ((hgM signsF t) + 1)) (lv' := [(1, .int ((hgM signsF t) + 1)), (3, .int (signsF t)), (0, .ref (ad mb)), (2, .int (nI t))]) hx hb dX13_valueNow_50 hl (k := 2) rfl rfl (by decide) rfl (fun ls hl => ?_)
            refine lv_goto (tgt := 118) hx hb dX13_valueNow_53 (by decide) ?_
            refine lv_iinc (v := ((nI t) + 1)) (lv' := [(2, .int ((nI t) + 1)), (1, .int ((hgM signsF t) + 1)), (3, .int (signsF t)), (0, .ref (ad mb))]) hx hb dX13_valueNow_118 hl (k := 3) rfl rfl (by decide) rfl (fun ls hl => ?_)
            refine lv_goto (tgt := 4) hx hb dX13_valueNow_121 (by decide) ?_
            exact ih_4 (t + 1) ((hgM signsF t) + 1) ((nI t) + 1) (by omega) (by omega) (by first | (rw [hgM, if_neg c_25]; done) | (rw [hgM, if_pos c_25, if_pos c_59]; done) | (rw [hgM, if_pos c_25, if_neg c_59]; done)) (by exact nI_1 _) _ _ _ (by refine (va_up_self ML4 (mb + 25) (.inl (cI, 64, .inl (upd (vmN askedF signsF stackF t) (hgM signsF t).toNatClampNeg (signsF t))))).trans ?_; first | (rw [vmN, vmS, if_neg c_25, if_pos c_34]; done) | (rw [vmN, vmS, if_neg c_25, if_neg c_34]; done) | (rw [vmN, vmS, if_pos c_25, if_pos c_59, if_pos c_77]; done) | (rw [vmN, vmS, if_pos c_25, if_pos c_59, if_neg c_77]; done) | (rw [vmN, vmS, if_pos c_25, if_neg c_59]; done)) (fun q n0 => ((va_up_ne _ _ n0).trans (fL4 q n0))) hP hS ls (lv_sub hl [3, 1, 0] rfl)
  exact loop_4 (ns + 1) 0 0 0 (by omega) (by omega) (by rfl) (by rfl) _ _ _ m_mb_25 (fun q n0 => rfl) hP hS ls (lv_sub hl [2, 1, 0] rfl)
set_option maxRecDepth 20000 in
theorem fX13_feeBy_56 : FL wsX13_feeBy RX13 56 12 8 := ⟨RX13, TX13, 67, rfl, by decide +kernel, by decide, by decide +kernel⟩
set_option maxRecDepth 20000 in
theorem fX13_feeBy_40 : FL wsX13_feeBy RX13 40 12 3 := ⟨RX13, TX13, 67, rfl, by decide +kernel, by decide, by decide +kernel⟩
set_option maxRecDepth 20000 in
theorem fX13_feeBy_106 : FL wsX13_feeBy RX13 106 12 34 := ⟨RX13, TX13, 67, rfl, by decide +kernel, by decide, by decide +kernel⟩
set_option maxRecDepth 20000 in
theorem fX13_feeBy_64 : FL wsX13_feeBy RX13 64 12 11 := ⟨RX13, TX13, 67, rfl, by decide +kernel, by decide, by decide +kernel⟩
theorem yd_X13_valueNow : YD yX13_valueNow 0 := ⟨by decide +kernel, by decide +kernel, by decide +kernel⟩
set_option maxHeartbeats 4000000 in
set_option maxRecDepth 100000 in
theorem c_X13_feeBy (l : Launch) (D : va_G) (cB cI cJ : ClassId) (ad : Nat → Nat) (n : Nat) (M : Nat → va_E) (hI : ipI ad n) (mb : Nat) (nt : Nat) (nc : Nat) (np : Nat) (nq : Nat) (mv : Nat → Int32) (toldF : Nat → Int32) (limitF : Nat → Int32) (boardF : Nat → Int32) (signsF : Nat → Int32) (askedF : Nat → Int32) (stackF : Nat → Int32) (ns : Nat) (x : Int32) (y : Int32) (z : Int32) (h_mb : mb < n) (h_mb_3 : mb + 3 < n) (h_mb_8 : mb + 8 < n) (h_mb_11 : mb + 11 < n) (h_mb_21 : mb + 21 < n) (h_mb_24 : mb + 24 < n) (h_mb_25 : mb + 25 < n) (m_mb : M mb = .inr (12, modF ad mb mv)) (m_mb_3 : M (mb + 3) = .inl (cI, 14, .inl toldF)) (m_mb_8 : M (mb + 8) = .inl (cI, 10, .inl limitF)) (m_mb_11 : M (mb + 11) = .inl (cI, 10, .inl boardF)) (m_mb_21 : M (mb + 21) = .inl (cI, 1400, .inl signsF)) (m_mb_24 : M (mb + 24) = .inl (cI, 5, .inl askedF)) (m_mb_25 : M (mb + 25) = .inl (cI, 64, .inl stackF)) (k0 : toldF 0 = nI np) (hnp : np ≤ 4) (k1 : toldF 1 = nI nc) (hnc : nc ≤ 5) (k2 : toldF 2 = nI nt) (hnt : nt ≤ 12) (k3 : toldF 3 = nI nq) (hnq : nq ≤ 6) (k6 : toldF 6 = nI ns) (hns : ns ≤ 700) (hMK : mOK signsF ns) (hMR : mRule signsF ns) (vx : vp_in x 10) : cWi l D cB cI cJ ad n M yX13_feeBy wsX13_feeBy 2 45 [.ref (ad mb), .int x, .int y, .int z] (fun r M' => ∃ (vA vS : Nat → Int32), r = feeByS ns toldF signsF limitF boardF x y z ∧ M' (mb + 24) = .inl (cI, 5, .inl vA) ∧ M' (mb + 25) = .inl (cI, 64, .inl vS) ∧ ∀ q : Nat, q ≠ mb + 24 → q ≠ mb + 25 → M' q = M q) := by
  refine q_body (cc := cX13_feeBy) (maxL := 5) (ret := (some .int)) (by decide) rfl (Nat.le_of_ble_eq_true rfl) ?_
  intro p e s m args below meth c ls X hr hlocks hK hP hl
  obtain ⟨hx, hb, hml, hown, hts⟩ := id X
  have hS : va_S (ipA ad n) s.heap s.heap [] := va_S.rf
  have hl : lv_has ls 5 [(0, .ref (ad mb)), (1, .int x), (2, .int y), (3, .int z)] := hl
  refine lv_iconst (v := 0) hx hb dX13_feeBy_0 (by decide) ?_
  refine lv_iload_n hx hb dX13_feeBy_1 rfl (lv_at hl 2 rfl) ?_
  refine lv_aload_n hx hb dX13_feeBy_2 rfl (lv_at hl 0 rfl) ?_
  refine q_get (v := .ref (ad (mb + 8))) (fs := modF ad mb mv) X hK hP fX13_feeBy_56 h_mb m_mb rfl dX13_feeBy_3 ?_
  refine lv_iload_n hx hb dX13_feeBy_6 rfl (lv_at hl 1 rfl) ?_
  refine q_iald (f := limitF) (k := 10) X hK hP h_mb_8 m_mb_8 (by assumption) dX13_feeBy_7 ?_
  refine lv_isub hx hb dX13_feeBy_8 ?_
  refine q_max X hl.1 (by decide +kernel) (by decide +kernel) (by decide +kernel) (by decide +kernel) ⟨Nat.le_of_ble_eq_true rfl, Nat.le_of_ble_eq_true rfl⟩ (Nat.le_of_ble_eq_true rfl) ⟨Nat.zero_le _, Nat.zero_le _⟩ dX13_feeBy_9 ?_
  refine lv_istore (lv' := [(4, .int (imax 0 (y - (limitF x.toNatClampNeg)))), (0, .ref (ad mb)), (1, .int x), (2, .int y), (3, .int z)]) hx hb dX13_feeBy_12 hl (by decide) rfl (fun ls hl => ?_)
  refine lv_iload hx hb dX13_feeBy_14 (lv_at hl 0 rfl) ?_
  refine lv_if_ne (tgt := 21) hx hb dX13_feeBy_16 (by decide) (fun c_16 => ?_) (fun c_16 => ?_)
  · skip
    refine lv_aload_n hx hb dX13_feeBy_21 rfl (lv_at hl 1 rfl) ?_
    refine q_get (v := .ref (ad (mb + 3))) (fs := modF ad mb mv) X hK hP fX13_feeBy_40 h_mb m_mb rfl dX13_feeBy_22 ?_
    refine lv_bipush (v := 6) hx hb dX13_feeBy_25 (by decide) ?_
    refine q_ialdN (f := toldF) (k := 14) X hK hP 6 h_mb_3 m_mb_3 (by decide) (by decide) dX13_feeBy_27 ?_
    refine lv_if_ne (tgt := 43) hx hb dX13_feeBy_28 (by decide) (fun c_28 => ?_) (fun c_28 => ?_)
    · skip
      refine lv_aload_n hx hb dX13_feeBy_43 rfl (lv_at hl 1 rfl) ?_
      refine q_get (v := .ref (ad (mb + 24))) (fs := modF ad mb mv) X hK hP fX13_feeBy_106 h_mb m_mb rfl dX13_feeBy_44 ?_
      refine lv_iconst (v := 0) hx hb dX13_feeBy_47 (by decide) ?_
      refine lv_iload hx hb dX13_feeBy_48 (lv_at hl 0 rfl) ?_
      refine q_iastN (f := askedF) (k := 5) X hK hI hP hS 0 h_mb_24 m_mb_24 (by decide) (by decide) dX13_feeBy_50 (fun H locs hP hS => ?_)
      refine lv_aload_n hx hb dX13_feeBy_51 rfl (lv_at hl 1 rfl) ?_
      refine q_get (v := .ref (ad (mb + 24))) (fs := modF ad mb mv) X hK hP fX13_feeBy_106 h_mb ((va_up_ne M (.inl (cI, 5, .inl (upd askedF 0 (imax 0 (y - (limitF x.toNatClampNeg)))))) (show mb ≠ mb + 24 by omega)).trans m_mb) rfl dX13_feeBy_52 ?_
      refine lv_iconst (v := 1) hx hb dX13_feeBy_55 (by decide) ?_
      refine lv_iload_n hx hb dX13_feeBy_56 rfl (lv_at hl 3 rfl) ?_
      refine q_iastN (f := (upd askedF 0 (imax 0 (y - (limitF x.toNatClampNeg))))) (k := 5) X hK hI hP hS 1 h_mb_24 (va_up_self M (mb + 24) (.inl (cI, 5, .inl (upd askedF 0 (imax 0 (y - (limitF x.toNatClampNeg))))))) (by decide) (by decide) dX13_feeBy_57 (fun H locs hP hS => ?_)
      refine lv_aload_n hx hb dX13_feeBy_58 rfl (lv_at hl 1 rfl) ?_
      refine q_get (v := .ref (ad (mb + 24))) (fs := modF ad mb mv) X hK hP fX13_feeBy_106 h_mb ((va_up_ne (va_up M (mb + 24) (.inl (cI, 5, .inl (upd askedF 0 (imax 0 (y - (limitF x.toNatClampNeg))))))) (.inl (cI, 5, .inl (upd (upd askedF 0 (imax 0 (y - (limitF x.toNatClampNeg)))) 1 y))) (show mb ≠ mb + 24 by omega)).trans ((va_up_ne M (.inl (cI, 5, .inl (upd askedF 0 (imax 0 (y - (limitF x.toNatClampNeg)))))) (show mb ≠ mb + 24 by omega)).trans m_mb)) rfl dX13_feeBy_59 ?_
      refine lv_iconst (v := 2) hx hb dX13_feeBy_62 (by decide) ?_
      refine lv_aload_n hx hb dX13_feeBy_63 rfl (lv_at hl 1 rfl) ?_
      refine q_get (v := .ref (ad (mb + 8))) (fs := modF ad mb mv) X hK hP fX13_feeBy_56 h_mb ((va_up_ne (va_up M (mb + 24) (.inl (cI, 5, .inl (upd askedF 0 (imax 0 (y - (limitF x.toNatClampNeg))))))) (.inl (cI, 5, .inl (upd (upd askedF 0 (imax 0 (y - (limitF x.toNatClampNeg)))) 1 y))) (show mb ≠ mb + 24 by omega)).trans ((va_up_ne M (.inl (cI, 5, .inl (upd askedF 0 (imax 0 (y - (limitF x.toNatClampNeg)))))) (show mb ≠ mb + 24 by omega)).trans m_mb)) rfl dX13_feeBy_64 ?_
      refine lv_iload_n hx hb dX13_feeBy_67 rfl (lv_at hl 2 rfl) ?_
      refine q_iald (f := limitF) (k := 10) X hK hP h_mb_8 ((va_up_ne (va_up M (mb + 24) (.inl (cI, 5, .inl (upd askedF 0 (imax 0 (y - (limitF x.toNatClampNeg))))))) (.inl (cI, 5, .inl (upd (upd askedF 0 (imax 0 (y - (limitF x.toNatClampNeg)))) 1 y))) (show mb + 8 ≠ mb + 24 by omega)).trans ((va_up_ne M (.inl (cI, 5, .inl (upd askedF 0 (imax 0 (y - (limitF x.toNatClampNeg)))))) (show mb + 8 ≠ mb + 24 by omega)).trans m_mb_8)) (by assumption) dX13_feeBy_68 ?_
      refine q_iastN (f := (upd (upd askedF 0 (imax 0 (y - (limitF x.toNatClampNeg)))) 1 y)) (k := 5) X hK hI hP hS 2 h_mb_24 (va_up_self (va_up M (mb + 24) (.inl (cI, 5, .inl (upd askedF 0 (imax 0 (y - (limitF x.toNatClampNeg))))))) (mb + 24) (.inl (cI, 5, .inl (upd (upd askedF 0 (imax 0 (y - (limitF x.toNatClampNeg)))) 1 y)))) (by decide) (by decide) dX13_feeBy_69 (fun H locs hP hS => ?_)
      refine lv_aload_n hx hb dX13_feeBy_70 rfl (lv_at hl 1 rfl) ?_
      refine q_get (v := .ref (ad (mb + 24))) (fs := modF ad mb mv) X hK hP fX13_feeBy_106 h_mb ((va_up_ne (va_up (va_up M (mb + 24) (.inl (cI, 5, .inl (upd askedF 0 (imax 0 (y - (limitF x.toNatClampNeg))))))) (mb + 24) (.inl (cI, 5, .inl (upd (upd askedF 0 (imax 0 (y - (limitF x.toNatClampNeg)))) 1 y)))) (.inl (cI, 5, .inl (upd (upd (upd askedF 0 (imax 0 (y - (limitF x.toNatClampNeg)))) 1 y) 2 (limitF x.toNatClampNeg)))) (show mb ≠ mb + 24 by omega)).trans ((va_up_ne (va_up M (mb + 24) (.inl (cI, 5, .inl (upd askedF 0 (imax 0 (y - (limitF x.toNatClampNeg))))))) (.inl (cI, 5, .inl (upd (upd askedF 0 (imax 0 (y - (limitF x.toNatClampNeg)))) 1 y))) (show mb ≠ mb + 24 by omega)).trans ((va_up_ne M (.inl (cI, 5, .inl (upd askedF 0 (imax 0 (y - (limitF x.toNatClampNeg)))))) (show mb ≠ mb + 24 by omega)).trans m_mb))) rfl dX13_feeBy_71 ?_
      refine lv_iconst (v := 3) hx hb dX13_feeBy_74 (by decide) ?_
      refine lv_iload_n hx hb dX13_feeBy_75 rfl (lv_at hl 4 rfl) ?_
      refine q_iastN (f := (upd (upd (upd askedF 0 (imax 0 (y - (limitF x.toNatClampNeg)))) 1 y) 2 (limitF x.toNatClampNeg))) (k := 5) X hK hI hP hS 3 h_mb_24 (va_up_self (va_up (va_up M (mb + 24) (.inl (cI, 5, .inl (upd askedF 0 (imax 0 (y - (limitF x.toNatClampNeg))))))) (mb + 24) (.inl (cI, 5, .inl (upd (upd askedF 0 (imax 0 (y - (limitF x.toNatClampNeg)))) 1 y)))) (mb + 24) (.inl (cI, 5, .inl (upd (upd (upd askedF 0 (imax 0 (y - (limitF x.toNatClampNeg)))) 1 y) 2 (limitF x.toNatClampNeg))))) (by decide) (by decide) dX13_feeBy_76 (fun H locs hP hS => ?_)
      refine lv_aload_n hx hb dX13_feeBy_77 rfl (lv_at hl 1 rfl) ?_
      refine q_get (v := .ref (ad (mb + 24))) (fs := modF ad mb mv) X hK hP fX13_feeBy_106 h_mb ((va_up_ne (va_up (va_up (va_up M (mb + 24) (.inl (cI, 5, .inl (upd askedF 0 (imax 0 (y - (limitF x.toNatClampNeg))))))) (mb + 24) (.inl (cI, 5, .inl (upd (upd askedF 0 (imax 0 (y - (limitF x.toNatClampNeg)))) 1 y)))) (mb + 24) (.inl (cI, 5, .inl (upd (upd (upd askedF 0 (imax 0 (y - (limitF x.toNatClampNeg)))) 1 y) 2 (limitF x.toNatClampNeg))))) (.inl (cI, 5, .inl (upd (upd (upd (upd askedF 0 (imax 0 (y - (limitF x.toNatClampNeg)))) 1 y) 2 (limitF x.toNatClampNeg)) 3 z))) (show mb ≠ mb + 24 by omega)).trans ((va_up_ne (va_up (va_up M (mb + 24) (.inl (cI, 5, .inl (upd askedF 0 (imax 0 (y - (limitF x.toNatClampNeg))))))) (mb + 24) (.inl (cI, 5, .inl (upd (upd askedF 0 (imax 0 (y - (limitF x.toNatClampNeg)))) 1 y)))) (.inl (cI, 5, .inl (upd (upd (upd askedF 0 (imax 0 (y - (limitF x.toNatClampNeg)))) 1 y) 2 (limitF x.toNatClampNeg)))) (show mb ≠ mb + 24 by omega)).trans ((va_up_ne (va_up M (mb + 24) (.inl (cI, 5, .inl (upd askedF 0 (imax 0 (y - (limitF x.toNatClampNeg))))))) (.inl (cI, 5, .inl (upd (upd askedF 0 (imax 0 (y - (limitF x.toNatClampNeg)))) 1 y))) (show mb ≠ mb + 24 by omega)).trans ((va_up_ne M (.inl (cI, 5, .inl (upd askedF 0 (imax 0 (y - (limitF x.toNatClampNeg)))))) (show mb ≠ mb + 24 by omega)).trans m_mb)))) rfl dX13_feeBy_78 ?_
      refine lv_iconst (v := 4) hx hb dX13_feeBy_81 (by decide) ?_
      refine lv_aload_n hx hb dX13_feeBy_82 rfl (lv_at hl 1 rfl) ?_
      refine q_get (v := .ref (ad (mb + 11))) (fs := modF ad mb mv) X hK hP fX13_feeBy_64 h_mb ((va_up_ne (va_up (va_up (va_up M (mb + 24) (.inl (cI, 5, .inl (upd askedF 0 (imax 0 (y - (limitF x.toNatClampNeg))))))) (mb + 24) (.inl (cI, 5, .inl (upd (upd askedF 0 (imax 0 (y - (limitF x.toNatClampNeg)))) 1 y)))) (mb + 24) (.inl (cI, 5, .inl (upd (upd (upd askedF 0 (imax 0 (y - (limitF x.toNatClampNeg)))) 1 y) 2 (limitF x.toNatClampNeg))))) (.inl (cI, 5, .inl (upd (upd (upd (upd askedF 0 (imax 0 (y - (limitF x.toNatClampNeg)))) 1 y) 2 (limitF x.toNatClampNeg)) 3 z))) (show mb ≠ mb + 24 by omega)).trans ((va_up_ne (va_up (va_up M (mb + 24) (.inl (cI, 5, .inl (upd askedF 0 (imax 0 (y - (limitF x.toNatClampNeg))))))) (mb + 24) (.inl (cI, 5, .inl (upd (upd askedF 0 (imax 0 (y - (limitF x.toNatClampNeg)))) 1 y)))) (.inl (cI, 5, .inl (upd (upd (upd askedF 0 (imax 0 (y - (limitF x.toNatClampNeg)))) 1 y) 2 (limitF x.toNatClampNeg)))) (show mb ≠ mb + 24 by omega)).trans ((va_up_ne (va_up M (mb + 24) (.inl (cI, 5, .inl (upd askedF 0 (imax 0 (y - (limitF x.toNatClampNeg))))))) (.inl (cI, 5, .inl (upd (upd askedF 0 (imax 0 (y - (limitF x.toNatClampNeg)))) 1 y))) (show mb ≠ mb + 24 by omega)).trans ((va_up_ne M (.inl (cI, 5, .inl (upd askedF 0 (imax 0 (y - (limitF x.toNatClampNeg)))))) (show mb ≠ mb + 24 by omega)).trans m_mb)))) rfl dX13_feeBy_83 ?_
      refine lv_iload_n hx hb dX13_feeBy_86 rfl (lv_at hl 2 rfl) ?_
      refine q_iald (f := boardF) (k := 10) X hK hP h_mb_11 ((va_up_ne (va_up (va_up (va_up M (mb + 24) (.inl (cI, 5, .inl (upd askedF 0 (imax 0 (y - (limitF x.toNatClampNeg))))))) (mb + 24) (.inl (cI, 5, .inl (upd (upd askedF 0 (imax 0 (y - (limitF x.toNatClampNeg)))) 1 y)))) (mb + 24) (.inl (cI, 5, .inl (upd (upd (upd askedF 0 (imax 0 (y - (limitF x.toNatClampNeg)))) 1 y) 2 (limitF x.toNatClampNeg))))) (.inl (cI, 5, .inl (upd (upd (upd (upd askedF 0 (imax 0 (y - (limitF x.toNatClampNeg)))) 1 y) 2 (limitF x.toNatClampNeg)) 3 z))) (show mb + 11 ≠ mb + 24 by omega)).trans ((va_up_ne (va_up (va_up M (mb + 24) (.inl (cI, 5, .inl (upd askedF 0 (imax 0 (y - (limitF x.toNatClampNeg))))))) (mb + 24) (.inl (cI, 5, .inl (upd (upd askedF 0 (imax 0 (y - (limitF x.toNatClampNeg)))) 1 y)))) (.inl (cI, 5, .inl (upd (upd (upd askedF 0 (imax 0 (y - (limitF x.toNatClampNeg)))) 1 y) 2 (limitF x.toNatClampNeg)))) (show mb + 11 ≠ mb + 24 by omega)).trans ((va_up_ne (va_up M (mb + 24) (.inl (cI, 5, .inl (upd askedF 0 (imax 0 (y - (limitF x.toNatClampNeg))))))) (.inl (cI, 5, .inl (upd (upd askedF 0 (imax 0 (y - (limitF x.toNatClampNeg)))) 1 y))) (show mb + 11 ≠ mb + 24 by omega)).trans ((va_up_ne M (.inl (cI, 5, .inl (upd askedF 0 (imax 0 (y - (limitF x.toNatClampNeg)))))) (show mb + 11 ≠ mb + 24 by omega)).trans m_mb_11)))) (by assumption) dX13_feeBy_87 ?_
      refine q_iastN (f := (upd (upd (upd (upd askedF 0 (imax 0 (y - (limitF x.toNatClampNeg)))) 1 y) 2 (limitF x.toNatClampNeg)) 3 z)) (k := 5) X hK hI hP hS 4 h_mb_24 (va_up_self (va_up (va_up (va_up M (mb + 24) (.inl (cI, 5, .inl (upd askedF 0 (imax 0 (y - (limitF x.toNatClampNeg))))))) (mb + 24) (.inl (cI, 5, .inl (upd (upd askedF 0 (imax 0 (y - (limitF x.toNatClampNeg)))) 1 y)))) (mb + 24) (.inl (cI, 5, .inl (upd (upd (upd askedF 0 (imax 0 (y - (limitF x.toNatClampNeg)))) 1 y) 2 (limitF x.toNatClampNeg))))) (mb + 24) (.inl (cI, 5, .inl (upd (upd (upd (upd askedF 0 (imax 0 (y - (limitF x.toNatClampNeg)))) 1 y) 2 (limitF x.toNatClampNeg)) 3 z)))) (by decide) (by decide) dX13_feeBy_88 (fun H locs hP hS => ?_)
      refine lv_iconst (v := 0) hx hb dX13_feeBy_89 (by decide) ?_
      refine lv_sipush (v := 9999) hx hb dX13_feeBy_90 (by decide) ?_
      refine lv_aload_n hx hb dX13_feeBy_93 rfl (lv_at hl 1 rfl) ?_
      refine q_wrVi (As := []) (rest := [.int 9999, .int 0]) (c_X13_valueNow l D cB cI cJ ad n (va_up (va_up (va_up (va_up (va_up M (mb + 24) (.inl (cI, 5, .inl (upd askedF 0 (imax 0 (y - (limitF x.toNatClampNeg))))))) (mb + 24) (.inl (cI, 5, .inl (upd (upd askedF 0 (imax 0 (y - (limitF x.toNatClampNeg)))) 1 y)))) (mb + 24) (.inl (cI, 5, .inl (upd (upd (upd askedF 0 (imax 0 (y - (limitF x.toNatClampNeg)))) 1 y) 2 (limitF x.toNatClampNeg))))) (mb + 24) (.inl (cI, 5, .inl (upd (upd (upd (upd askedF 0 (imax 0 (y - (limitF x.toNatClampNeg)))) 1 y) 2 (limitF x.toNatClampNeg)) 3 z)))) (mb + 24) (.inl (cI, 5, .inl (upd (upd (upd (upd (upd askedF 0 (imax 0 (y - (limitF x.toNatClampNeg)))) 1 y) 2 (limitF x.toNatClampNeg)) 3 z) 4 (boardF x.toNatClampNeg))))) hI mb nt nc np nq mv toldF signsF (upd (upd (upd (upd (upd askedF 0 (imax 0 (y - (limitF x.toNatClampNeg)))) 1 y) 2 (limitF x.toNatClampNeg)) 3 z) 4 (boardF x.toNatClampNeg)) stackF ns h_mb h_mb_3 h_mb_21 h_mb_24 h_mb_25 ((va_up_ne (va_up (va_up (va_up (va_up M (mb + 24) (.inl (cI, 5, .inl (upd askedF 0 (imax 0 (y - (limitF x.toNatClampNeg))))))) (mb + 24) (.inl (cI, 5, .inl (upd (upd askedF 0 (imax 0 (y - (limitF x.toNatClampNeg)))) 1 y)))) (mb + 24) (.inl (cI, 5, .inl (upd (upd (upd askedF 0 (imax 0 (y - (limitF x.toNatClampNeg)))) 1 y) 2 (limitF x.toNatClampNeg))))) (mb + 24) (.inl (cI, 5, .inl (upd (upd (upd (upd askedF 0 (imax 0 (y - (limitF x.toNatClampNeg)))) 1 y) 2 (limitF x.toNatClampNeg)) 3 z)))) (.inl (cI, 5, .inl (upd (upd (upd (upd (upd askedF 0 (imax 0 (y - (limitF x.toNatClampNeg)))) 1 y) 2 (limitF x.toNatClampNeg)) 3 z) 4 (boardF x.toNatClampNeg)))) (show mb ≠ mb + 24 by omega)).trans ((va_up_ne (va_up (va_up (va_up M (mb + 24) (.inl (cI, 5, .inl (upd askedF 0 (imax 0 (y - (limitF x.toNatClampNeg))))))) (mb + 24) (.inl (cI, 5, .inl (upd (upd askedF 0 (imax 0 (y - (limitF x.toNatClampNeg)))) 1 y)))) (mb + 24) (.inl (cI, 5, .inl (upd (upd (upd askedF 0 (imax 0 (y - (limitF x.toNatClampNeg)))) 1 y) 2 (limitF x.toNatClampNeg))))) (.inl (cI, 5, .inl (upd (upd (upd (upd askedF 0 (imax 0 (y - (limitF x.toNatClampNeg)))) 1 y) 2 (limitF x.toNatClampNeg)) 3 z))) (show mb ≠ mb + 24 by omega)).trans ((va_up_ne (va_up (va_up M (mb + 24) (.inl (cI, 5, .inl (upd askedF 0 (imax 0 (y - (limitF x.toNatClampNeg))))))) (mb + 24) (.inl (cI, 5, .inl (upd (upd askedF 0 (imax 0 (y - (limitF x.toNatClampNeg)))) 1 y)))) (.inl (cI, 5, .inl (upd (upd (upd askedF 0 (imax 0 (y - (limitF x.toNatClampNeg)))) 1 y) 2 (limitF x.toNatClampNeg)))) (show mb ≠ mb + 24 by omega)).trans ((va_up_ne (va_up M (mb + 24) (.inl (cI, 5, .inl (upd askedF 0 (imax 0 (y - (limitF x.toNatClampNeg))))))) (.inl (cI, 5, .inl (upd (upd askedF 0 (imax 0 (y - (limitF x.toNatClampNeg)))) 1 y))) (show mb ≠ mb + 24 by omega)).trans ((va_up_ne M (.inl (cI, 5, .inl (upd askedF 0 (imax 0 (y - (limitF x.toNatClampNeg)))))) (show mb ≠ mb + 24 by omega)).trans m_mb))))) ((va_up_ne (va_up (va_up (va_up (va_up M (mb + 24) (.inl (cI, 5, .inl (upd askedF 0 (imax 0 (y - (limitF x.toNatClampNeg))))))) (mb + 24) (.inl (cI, 5, .inl (upd (upd askedF 0 (imax 0 (y - (limitF x.toNatClampNeg)))) 1 y)))) (mb + 24) (.inl (cI, 5, .inl (upd (upd (upd askedF 0 (imax 0 (y - (limitF x.toNatClampNeg)))) 1 y) 2 (limitF x.toNatClampNeg))))) (mb + 24) (.inl (cI, 5, .inl (upd (upd (upd (upd askedF 0 (imax 0 (y - (limitF x.toNatClampNeg)))) 1 y) 2 (limitF x.toNatClampNeg)) 3 z)))) (.inl (cI, 5, .inl (upd (upd (upd (upd (upd askedF 0 (imax 0 (y - (limitF x.toNatClampNeg)))) 1 y) 2 (limitF x.toNatClampNeg)) 3 z) 4 (boardF x.toNatClampNeg)))) (show mb + 3 ≠ mb + 24 by omega)).trans ((va_up_ne (va_up (va_up (va_up M (mb + 24) (.inl (cI, 5, .inl (upd askedF 0 (imax 0 (y - (limitF x.toNatClampNeg))))))) (mb + 24) (.inl (cI, 5, .inl (upd (upd askedF 0 (imax 0 (y - (limitF x.toNatClampNeg)))) 1 y)))) (mb + 24) (.inl (cI, 5, .inl (upd (upd (upd askedF 0 (imax 0 (y - (limitF x.toNatClampNeg)))) 1 y) 2 (limitF x.toNatClampNeg))))) (.inl (cI, 5, .inl (upd (upd (upd (upd askedF 0 (imax 0 (y - (limitF x.toNatClampNeg)))) 1 y) 2 (limitF x.toNatClampNeg)) 3 z))) (show mb + 3 ≠ mb + 24 by omega)).trans ((va_up_ne (va_up (va_up M (mb + 24) (.inl (cI, 5, .inl (upd askedF 0 (imax 0 (y - (limitF x.toNatClampNeg))))))) (mb + 24) (.inl (cI, 5, .inl (upd (upd askedF 0 (imax 0 (y - (limitF x.toNatClampNeg)))) 1 y)))) (.inl (cI, 5, .inl (upd (upd (upd askedF 0 (imax 0 (y - (limitF x.toNatClampNeg)))) 1 y) 2 (limitF x.toNatClampNeg)))) (show mb + 3 ≠ mb + 24 by omega)).trans ((va_up_ne (va_up M (mb + 24) (.inl (cI, 5, .inl (upd askedF 0 (imax 0 (y - (limitF x.toNatClampNeg))))))) (.inl (cI, 5, .inl (upd (upd askedF 0 (imax 0 (y - (limitF x.toNatClampNeg)))) 1 y))) (show mb + 3 ≠ mb + 24 by omega)).trans ((va_up_ne M (.inl (cI, 5, .inl (upd askedF 0 (imax 0 (y - (limitF x.toNatClampNeg)))))) (show mb + 3 ≠ mb + 24 by omega)).trans m_mb_3))))) ((va_up_ne (va_up (va_up (va_up (va_up M (mb + 24) (.inl (cI, 5, .inl (upd askedF 0 (imax 0 (y - (limitF x.toNatClampNeg))))))) (mb + 24) (.inl (cI, 5, .inl (upd (upd askedF 0 (imax 0 (y - (limitF x.toNatClampNeg)))) 1 y)))) (mb + 24) (.inl (cI, 5, .inl (upd (upd (upd askedF 0 (imax 0 (y - (limitF x.toNatClampNeg)))) 1 y) 2 (limitF x.toNatClampNeg))))) (mb + 24) (.inl (cI, 5, .inl (upd (upd (upd (upd askedF 0 (imax 0 (y - (limitF x.toNatClampNeg)))) 1 y) 2 (limitF x.toNatClampNeg)) 3 z)))) (.inl (cI, 5, .inl (upd (upd (upd (upd (upd askedF 0 (imax 0 (y - (limitF x.toNatClampNeg)))) 1 y) 2 (limitF x.toNatClampNeg)) 3 z) 4 (boardF x.toNatClampNeg)))) (show mb + 21 ≠ mb + 24 by omega)).trans ((va_up_ne (va_up (va_up (va_up M (mb + 24) (.inl (cI, 5, .inl (upd askedF 0 (imax 0 (y - (limitF x.toNatClampNeg))))))) (mb + 24) (.inl (cI, 5, .inl (upd (upd askedF 0 (imax 0 (y - (limitF x.toNatClampNeg)))) 1 y)))) (mb + 24) (.inl (cI, 5, .inl (upd (upd (upd askedF 0 (imax 0 (y - (limitF x.toNatClampNeg)))) 1 y) 2 (limitF x.toNatClampNeg))))) (.inl (cI, 5, .inl (upd (upd (upd (upd askedF 0 (imax 0 (y - (limitF x.toNatClampNeg)))) 1 y) 2 (limitF x.toNatClampNeg)) 3 z))) (show mb + 21 ≠ mb + 24 by omega)).trans ((va_up_ne (va_up (va_up M (mb + 24) (.inl (cI, 5, .inl (upd askedF 0 (imax 0 (y - (limitF x.toNatClampNeg))))))) (mb + 24) (.inl (cI, 5, .inl (upd (upd askedF 0 (imax 0 (y - (limitF x.toNatClampNeg)))) 1 y)))) (.inl (cI, 5, .inl (upd (upd (upd askedF 0 (imax 0 (y - (limitF x.toNatClampNeg)))) 1 y) 2 (limitF x.toNatClampNeg)))) (show mb + 21 ≠ mb + 24 by omega)).trans ((va_up_ne (va_up M (mb + 24) (.inl (cI, 5, .inl (upd askedF 0 (imax 0 (y - (limitF x.toNatClampNeg))))))) (.inl (cI, 5, .inl (upd (upd askedF 0 (imax 0 (y - (limitF x.toNatClampNeg)))) 1 y))) (show mb + 21 ≠ mb + 24 by omega)).trans ((va_up_ne M (.inl (cI, 5, .inl (upd askedF 0 (imax 0 (y - (limitF x.toNatClampNeg)))))) (show mb + 21 ≠ mb + 24 by omega)).trans m_mb_21))))) (va_up_self (va_up (va_up (va_up (va_up M (mb + 24) (.inl (cI, 5, .inl (upd askedF 0 (imax 0 (y - (limitF x.toNatClampNeg))))))) (mb + 24) (.inl (cI, 5, .inl (upd (upd askedF 0 (imax 0 (y - (limitF x.toNatClampNeg)))) 1 y)))) (mb + 24) (.inl (cI, 5, .inl (upd (upd (upd askedF 0 (imax 0 (y - (limitF x.toNatClampNeg)))) 1 y) 2 (limitF x.toNatClampNeg))))) (mb + 24) (.inl (cI, 5, .inl (upd (upd (upd (upd askedF 0 (imax 0 (y - (limitF x.toNatClampNeg)))) 1 y) 2 (limitF x.toNatClampNeg)) 3 z)))) (mb + 24) (.inl (cI, 5, .inl (upd (upd (upd (upd (upd askedF 0 (imax 0 (y - (limitF x.toNatClampNeg)))) 1 y) 2 (limitF x.toNatClampNeg)) 3 z) 4 (boardF x.toNatClampNeg))))) ((va_up_ne (va_up (va_up (va_up (va_up M (mb + 24) (.inl (cI, 5, .inl (upd askedF 0 (imax 0 (y - (limitF x.toNatClampNeg))))))) (mb + 24) (.inl (cI, 5, .inl (upd (upd askedF 0 (imax 0 (y - (limitF x.toNatClampNeg)))) 1 y)))) (mb + 24) (.inl (cI, 5, .inl (upd (upd (upd askedF 0 (imax 0 (y - (limitF x.toNatClampNeg)))) 1 y) 2 (limitF x.toNatClampNeg))))) (mb + 24) (.inl (cI, 5, .inl (upd (upd (upd (upd askedF 0 (imax 0 (y - (limitF x.toNatClampNeg)))) 1 y) 2 (limitF x.toNatClampNeg)) 3 z)))) (.inl (cI, 5, .inl (upd (upd (upd (upd (upd askedF 0 (imax 0 (y - (limitF x.toNatClampNeg)))) 1 y) 2 (limitF x.toNatClampNeg)) 3 z) 4 (boardF x.toNatClampNeg)))) (show mb + 25 ≠ mb + 24 by omega)).trans ((va_up_ne (va_up (va_up (va_up M (mb + 24) (.inl (cI, 5, .inl (upd askedF 0 (imax 0 (y - (limitF x.toNatClampNeg))))))) (mb + 24) (.inl (cI, 5, .inl (upd (upd askedF 0 (imax 0 (y - (limitF x.toNatClampNeg)))) 1 y)))) (mb + 24) (.inl (cI, 5, .inl (upd (upd (upd askedF 0 (imax 0 (y - (limitF x.toNatClampNeg)))) 1 y) 2 (limitF x.toNatClampNeg))))) (.inl (cI, 5, .inl (upd (upd (upd (upd askedF 0 (imax 0 (y - (limitF x.toNatClampNeg)))) 1 y) 2 (limitF x.toNatClampNeg)) 3 z))) (show mb + 25 ≠ mb + 24 by omega)).trans ((va_up_ne (va_up (va_up M (mb + 24) (.inl (cI, 5, .inl (upd askedF 0 (imax 0 (y - (limitF x.toNatClampNeg))))))) (mb + 24) (.inl (cI, 5, .inl (upd (upd askedF 0 (imax 0 (y - (limitF x.toNatClampNeg)))) 1 y)))) (.inl (cI, 5, .inl (upd (upd (upd askedF 0 (imax 0 (y - (limitF x.toNatClampNeg)))) 1 y) 2 (limitF x.toNatClampNeg)))) (show mb + 25 ≠ mb + 24 by omega)).trans ((va_up_ne (va_up M (mb + 24) (.inl (cI, 5, .inl (upd askedF 0 (imax 0 (y - (limitF x.toNatClampNeg))))))) (.inl (cI, 5, .inl (upd (upd askedF 0 (imax 0 (y - (limitF x.toNatClampNeg)))) 1 y))) (show mb + 25 ≠ mb + 24 by omega)).trans ((va_up_ne M (.inl (cI, 5, .inl (upd askedF 0 (imax 0 (y - (limitF x.toNatClampNeg)))))) (show mb + 25 ≠ mb + 24 by omega)).trans m_mb_25))))) k0 hnp k1 hnc k2 hnt k3 hnq k6 hns hMK) X hK hP hS hl.1 rfl gX13_feeBy_X13_valueNow yd_X13_valueNow ⟨Nat.le_of_ble_eq_true rfl, Nat.le_of_ble_eq_true rfl⟩ h_mb ((va_up_ne (va_up (va_up (va_up (va_up M (mb + 24) (.inl (cI, 5, .inl (upd askedF 0 (imax 0 (y - (limitF x.toNatClampNeg))))))) (mb + 24) (.inl (cI, 5, .inl (upd (upd askedF 0 (imax 0 (y - (limitF x.toNatClampNeg)))) 1 y)))) (mb + 24) (.inl (cI, 5, .inl (upd (upd (upd askedF 0 (imax 0 (y - (limitF x.toNatClampNeg)))) 1 y) 2 (limitF x.toNatClampNeg))))) (mb + 24) (.inl (cI, 5, .inl (upd (upd (upd (upd askedF 0 (imax 0 (y - (limitF x.toNatClampNeg)))) 1 y) 2 (limitF x.toNatClampNeg)) 3 z)))) (.inl (cI, 5, .inl (upd (upd (upd (upd (upd askedF 0 (imax 0 (y - (limitF x.toNatClampNeg)))) 1 y) 2 (limitF x.toNatClampNeg)) 3 z) 4 (boardF x.toNatClampNeg)))) (show mb ≠ mb + 24 by omega)).trans ((va_up_ne (va_up (va_up (va_up M (mb + 24) (.inl (cI, 5, .inl (upd askedF 0 (imax 0 (y - (limitF x.toNatClampNeg))))))) (mb + 24) (.inl (cI, 5, .inl (upd (upd askedF 0 (imax 0 (y - (limitF x.toNatClampNeg)))) 1 y)))) (mb + 24) (.inl (cI, 5, .inl (upd (upd (upd askedF 0 (imax 0 (y - (limitF x.toNatClampNeg)))) 1 y) 2 (limitF x.toNatClampNeg))))) (.inl (cI, 5, .inl (upd (upd (upd (upd askedF 0 (imax 0 (y - (limitF x.toNatClampNeg)))) 1 y) 2 (limitF x.toNatClampNeg)) 3 z))) (show mb ≠ mb + 24 by omega)).trans ((va_up_ne (va_up (va_up M (mb + 24) (.inl (cI, 5, .inl (upd askedF 0 (imax 0 (y - (limitF x.toNatClampNeg))))))) (mb + 24) (.inl (cI, 5, .inl (upd (upd askedF 0 (imax 0 (y - (limitF x.toNatClampNeg)))) 1 y)))) (.inl (cI, 5, .inl (upd (upd (upd askedF 0 (imax 0 (y - (limitF x.toNatClampNeg)))) 1 y) 2 (limitF x.toNatClampNeg)))) (show mb ≠ mb + 24 by omega)).trans ((va_up_ne (va_up M (mb + 24) (.inl (cI, 5, .inl (upd askedF 0 (imax 0 (y - (limitF x.toNatClampNeg))))))) (.inl (cI, 5, .inl (upd (upd askedF 0 (imax 0 (y - (limitF x.toNatClampNeg)))) 1 y))) (show mb ≠ mb + 24 by omega)).trans ((va_up_ne M (.inl (cI, 5, .inl (upd askedF 0 (imax 0 (y - (limitF x.toNatClampNeg)))))) (show mb ≠ mb + 24 by omega)).trans m_mb))))) (ci := 12) rfl rfl (Nat.le_of_ble_eq_true rfl) ⟨Nat.zero_le _, Nat.zero_le _⟩ dX13_feeBy_94 (fun r13 M12 H locs hp11 hP hS => ?_)
      obtain ⟨rfl, g14, fr15⟩ := hp11
      refine q_min X hl.1 (by decide +kernel) (by decide +kernel) (by decide +kernel) (by decide +kernel) ⟨Nat.le_of_ble_eq_true rfl, Nat.le_of_ble_eq_true rfl⟩ (Nat.le_of_ble_eq_true rfl) ⟨Nat.zero_le _, Nat.zero_le _⟩ dX13_feeBy_97 ?_
      refine q_max X hl.1 (by decide +kernel) (by decide +kernel) (by decide +kernel) (by decide +kernel) ⟨Nat.le_of_ble_eq_true rfl, Nat.le_of_ble_eq_true rfl⟩ (Nat.le_of_ble_eq_true rfl) ⟨Nat.zero_le _, Nat.zero_le _⟩ dX13_feeBy_100 ?_
      exact q_wzret X hr hlocks hP hS (rfl) ⟨_, _, (by rw [feeByS, if_neg c_16, if_neg c_28, ← hMR askedF stackF _ _ _ _ _ (fun q => c_28 (by rw [k6, q]; rfl))]; rfl), ((fr15 (mb + 24) (by omega)).trans (va_up_self (va_up (va_up (va_up (va_up M (mb + 24) (.inl (cI, 5, .inl (upd askedF 0 (imax 0 (y - (limitF x.toNatClampNeg))))))) (mb + 24) (.inl (cI, 5, .inl (upd (upd askedF 0 (imax 0 (y - (limitF x.toNatClampNeg)))) 1 y)))) (mb + 24) (.inl (cI, 5, .inl (upd (upd (upd askedF 0 (imax 0 (y - (limitF x.toNatClampNeg)))) 1 y) 2 (limitF x.toNatClampNeg))))) (mb + 24) (.inl (cI, 5, .inl (upd (upd (upd (upd askedF 0 (imax 0 (y - (limitF x.toNatClampNeg)))) 1 y) 2 (limitF x.toNatClampNeg)) 3 z)))) (mb + 24) (.inl (cI, 5, .inl (upd (upd (upd (upd (upd askedF 0 (imax 0 (y - (limitF x.toNatClampNeg)))) 1 y) 2 (limitF x.toNatClampNeg)) 3 z) 4 (boardF x.toNatClampNeg)))))), g14, (fun q n0 n1 => ((fr15 q n1).trans ((va_up_ne _ _ n0).trans ((va_up_ne _ _ n0).trans ((va_up_ne _ _ n0).trans ((va_up_ne _ _ n0).trans (va_up_ne _ _ n0)))))))⟩ dX13_feeBy_103
    · skip
      refine lv_sipush (v := 9999) hx hb dX13_feeBy_31 (by decide) ?_
      refine lv_bipush (v := 10) hx hb dX13_feeBy_34 (by decide) ?_
      refine lv_iload hx hb dX13_feeBy_36 (lv_at hl 0 rfl) ?_
      refine lv_imul hx hb dX13_feeBy_38 ?_
      refine q_min X hl.1 (by decide +kernel) (by decide +kernel) (by decide +kernel) (by decide +kernel) ⟨Nat.le_of_ble_eq_true rfl, Nat.le_of_ble_eq_true rfl⟩ (Nat.le_of_ble_eq_true rfl) ⟨Nat.zero_le _, Nat.zero_le _⟩ dX13_feeBy_39 ?_
      exact q_wzret X hr hlocks hP hS (rfl) ⟨askedF, stackF, (by rw [feeByS, if_neg c_16, if_pos c_28]; rfl), m_mb_24, m_mb_25, (fun q n0 n1 => rfl)⟩ dX13_feeBy_42
  · skip
    refine lv_iconst (v := 0) hx hb dX13_feeBy_19 (by decide) ?_
    exact q_wzret X hr hlocks hP hS (rfl) ⟨askedF, stackF, (by rw [feeByS, if_pos c_16]), m_mb_24, m_mb_25, (fun q n0 n1 => rfl)⟩ dX13_feeBy_20
theorem yd_X13_feeBy : YD yX13_feeBy 3 := ⟨by decide +kernel, by decide +kernel, by decide +kernel⟩
def s_X13_feeOf (nt : Nat) (toldF : Nat → Int32) (limitF : Nat → Int32) (boardF : Nat → Int32) (kindF : Nat → Int32) (heavyF : Nat → Int32) (wideF : Nat → Int32) (hotF : Nat → Int32) (placeF : Nat → Int32) (signsF : Nat → Int32) (ns : Nat) (x : Int32) : Int32 := (feeByS ns toldF signsF limitF boardF x (s_X13_sumAt nt kindF heavyF wideF hotF placeF x 1) (s_X13_sumAt nt kindF heavyF wideF hotF placeF x 0))
set_option maxHeartbeats 4000000 in
set_option maxRecDepth 100000 in
theorem c_X13_feeOf (l : Launch) (D : va_G) (cB cI cJ : ClassId) (ad : Nat → Nat) (n : Nat) (M : Nat → va_E) (hI : ipI ad n) (mb : Nat) (nt : Nat) (nc : Nat) (np : Nat) (nq : Nat) (mv : Nat → Int32) (toldF : Nat → Int32) (limitF : Nat → Int32) (boardF : Nat → Int32) (kindF : Nat → Int32) (heavyF : Nat → Int32) (wideF : Nat → Int32) (hotF : Nat → Int32) (placeF : Nat → Int32) (signsF : Nat → Int32) (askedF : Nat → Int32) (stackF : Nat → Int32) (ns : Nat) (x : Int32) (h_mb : mb < n) (h_mb_3 : mb + 3 < n) (h_mb_8 : mb + 8 < n) (h_mb_11 : mb + 11 < n) (h_mb_12 : mb + 12 < n) (h_mb_13 : mb + 13 < n) (h_mb_15 : mb + 15 < n) (h_mb_17 : mb + 17 < n) (h_mb_18 : mb + 18 < n) (h_mb_21 : mb + 21 < n) (h_mb_24 : mb + 24 < n) (h_mb_25 : mb + 25 < n) (m_mb : M mb = .inr (12, modF ad mb mv)) (m_mb_3 : M (mb + 3) = .inl (cI, 14, .inl toldF)) (m_mb_8 : M (mb + 8) = .inl (cI, 10, .inl limitF)) (m_mb_11 : M (mb + 11) = .inl (cI, 10, .inl boardF)) (m_mb_12 : M (mb + 12) = .inl (cI, 24, .inl kindF)) (m_mb_13 : M (mb + 13) = .inl (cI, 24, .inl heavyF)) (m_mb_15 : M (mb + 15) = .inl (cI, 24, .inl wideF)) (m_mb_17 : M (mb + 17) = .inl (cI, 24, .inl hotF)) (m_mb_18 : M (mb + 18) = .inl (cI, 24, .inl placeF)) (m_mb_21 : M (mb + 21) = .inl (cI, 1400, .inl signsF)) (m_mb_24 : M (mb + 24) = .inl (cI, 5, .inl askedF)) (m_mb_25 : M (mb + 25) = .inl (cI, 64, .inl stackF)) (k0 : toldF 0 = nI np) (hnp : np ≤ 4) (k1 : toldF 1 = nI nc) (hnc : nc ≤ 5) (k2 : toldF 2 = nI nt) (hnt : nt ≤ 12) (k3 : toldF 3 = nI nq) (hnq : nq ≤ 6) (k6 : toldF 6 = nI ns) (hns : ns ≤ 700) (hMK : mOK signsF ns) (hMR : mRule signsF ns) (vx : vp_in x 10) : cWi l D cB cI cJ ad n M yX13_feeOf wsX13_feeOf 3 69 [.ref (ad mb), .int x] (fun r M' => ∃ (v0__ : Nat → Int32) (v1__ : Nat → Int32), r = s_X13_feeOf nt toldF limitF boardF kindF heavyF wideF hotF placeF signsF ns x ∧ M' (mb + 24) = .inl (cI, 5, .inl v0__) ∧ M' (mb + 25) = .inl (cI, 64, .inl v1__) ∧ ∀ q : Nat, q ≠ mb + 24 → q ≠ mb + 25 → M' q = M q) := by
  refine q_body (cc := cX13_feeOf) (maxL := 2) (ret := (some .int)) (by decide) rfl (Nat.le_of_ble_eq_true rfl) ?_
  intro p e s m args below meth c ls X hr hlocks hK hP hl
  obtain ⟨hx, hb, hml, hown, hts⟩ := id X
  have hS : va_S (ipA ad n) s.heap s.heap [] := va_S.rf
  have hl : lv_has ls 2 [(0, .ref (ad mb)), (1, .int x)] := hl
  refine lv_aload_n hx hb dX13_feeOf_0 rfl (lv_at hl 0 rfl) ?_
  refine lv_iload_n hx hb dX13_feeOf_1 rfl (lv_at hl 1 rfl) ?_
  refine lv_aload_n hx hb dX13_feeOf_2 rfl (lv_at hl 0 rfl) ?_
  refine lv_iload_n hx hb dX13_feeOf_3 rfl (lv_at hl 1 rfl) ?_
  refine lv_iconst (v := 1) hx hb dX13_feeOf_4 (by decide) ?_
  refine q_rdV (As := [.int x, .int 1]) (rest := [.int x, .ref (ad mb)]) (c_X13_sumAt l D cB cI cJ ad n M mb nt nc np nq mv toldF kindF heavyF wideF hotF placeF x 1 h_mb h_mb_3 h_mb_12 h_mb_13 h_mb_15 h_mb_17 h_mb_18 m_mb m_mb_3 m_mb_12 m_mb_13 m_mb_15 m_mb_17 m_mb_18 k0 hnp k1 hnc k2 hnt k3 hnq) X hK hP hS hl.1 rfl gX13_feeOf_X13_sumAt yd_X13_sumAt ⟨Nat.le_of_ble_eq_true rfl, Nat.le_of_ble_eq_true rfl⟩ h_mb m_mb (ci := 12) rfl rfl (Nat.le_of_ble_eq_true rfl) ⟨Nat.zero_le _, Nat.zero_le _⟩ dX13_feeOf_5 ?_
  refine lv_aload_n hx hb dX13_feeOf_8 rfl (lv_at hl 0 rfl) ?_
  refine lv_iload_n hx hb dX13_feeOf_9 rfl (lv_at hl 1 rfl) ?_
  refine lv_iconst (v := 0) hx hb dX13_feeOf_10 (by decide) ?_
  refine q_rdV (As := [.int x, .int 0]) (rest := [.int (s_X13_sumAt nt kindF heavyF wideF hotF placeF x 1), .int x, .ref (ad mb)]) (c_X13_sumAt l D cB cI cJ ad n M mb nt nc np nq mv toldF kindF heavyF wideF hotF placeF x 0 h_mb h_mb_3 h_mb_12 h_mb_13 h_mb_15 h_mb_17 h_mb_18 m_mb m_mb_3 m_mb_12 m_mb_13 m_mb_15 m_mb_17 m_mb_18 k0 hnp k1 hnc k2 hnt k3 hnq) X hK hP hS hl.1 rfl gX13_feeOf_X13_sumAt yd_X13_sumAt ⟨Nat.le_of_ble_eq_true rfl, Nat.le_of_ble_eq_true rfl⟩ h_mb m_mb (ci := 12) rfl rfl (Nat.le_of_ble_eq_true rfl) ⟨Nat.zero_le _, Nat.zero_le _⟩ dX13_feeOf_11 ?_
  refine q_wrVi (As := [.int x, .int (s_X13_sumAt nt kindF heavyF wideF hotF placeF x 1), .int (s_X13_sumAt nt kindF heavyF wideF hotF placeF x 0)]) (rest := []) (c_X13_feeBy l D cB cI cJ ad n M hI mb nt nc np nq mv toldF limitF boardF signsF askedF stackF ns x (s_X13_sumAt nt kindF heavyF wideF hotF placeF x 1) (s_X13_sumAt nt kindF heavyF wideF hotF placeF x 0) h_mb h_mb_3 h_mb_8 h_mb_11 h_mb_21 h_mb_24 h_mb_25 m_mb m_mb_3 m_mb_8 m_mb_11 m_mb_21 m_mb_24 m_mb_25 k0 hnp k1 hnc k2 hnt k3 hnq k6 hns hMK hMR vx) X hK hP hS hl.1 rfl gX13_feeOf_X13_feeBy yd_X13_feeBy ⟨Nat.le_of_ble_eq_true rfl, Nat.le_of_ble_eq_true rfl⟩ h_mb m_mb (ci := 12) rfl rfl (Nat.le_of_ble_eq_true rfl) ⟨Nat.zero_le _, Nat.zero_le _⟩ dX13_feeOf_14 (fun r3 M2 H locs hp1 hP hS => ?_)
  obtain ⟨vA_4, vS_5, rfl, g6, g7, fr8⟩ := hp1
  exact q_wzret X hr hlocks hP hS (rfl) ⟨_, _, (by rfl), g6, g7, (fun q n0 n1 => (fr8 q n0 n1))⟩ dX13_feeOf_17
set_option maxRecDepth 20000 in
theorem fX13_billNow_40 : FL wsX13_billNow RX13 40 12 3 := ⟨RX13, TX13, 67, rfl, by decide +kernel, by decide, by decide +kernel⟩
theorem yd_X13_feeOf : YD yX13_feeOf 1 := ⟨by decide +kernel, by decide +kernel, by decide +kernel⟩
set_option maxRecDepth 20000 in
theorem fX13_billNow_331 : FL wsX13_billNow RX13 331 12 36 := ⟨RX13, TX13, 67, rfl, by decide +kernel, by decide, by decide +kernel⟩
set_option maxRecDepth 20000 in
theorem fX13_billNow_61 : FL wsX13_billNow RX13 61 12 10 := ⟨RX13, TX13, 67, rfl, by decide +kernel, by decide, by decide +kernel⟩
set_option maxRecDepth 20000 in
theorem fX13_billNow_84 : FL wsX13_billNow RX13 84 12 18 := ⟨RX13, TX13, 67, rfl, by decide +kernel, by decide, by decide +kernel⟩
set_option maxRecDepth 20000 in
theorem fX13_billNow_78 : FL wsX13_billNow RX13 78 12 16 := ⟨RX13, TX13, 67, rfl, by decide +kernel, by decide, by decide +kernel⟩
def s_X13_billNow_4s (nt : Nat) (mv : Nat → Int32) (toldF : Nat → Int32) (limitF : Nat → Int32) (costF : Nat → Int32) (boardF : Nat → Int32) (kindF : Nat → Int32) (heavyF : Nat → Int32) (wideF : Nat → Int32) (hotF : Nat → Int32) (placeF : Nat → Int32) (signsF : Nat → Int32) (ns : Nat) (t4 : Nat) (x4_1 : Int32) : Int32 := if (((mv 36) >>> ((nI t4) &&& 31)) &&& 1) = 1 then (x4_1 + ((s_X13_feeOf nt toldF limitF boardF kindF heavyF wideF hotF placeF signsF ns (nI t4)) + (costF t4))) else (x4_1 + ((s_X13_feeOf nt toldF limitF boardF kindF heavyF wideF hotF placeF signsF ns (nI t4)) + 0))
def s_X13_billNow_4 (nt : Nat) (mv : Nat → Int32) (toldF : Nat → Int32) (limitF : Nat → Int32) (costF : Nat → Int32) (boardF : Nat → Int32) (kindF : Nat → Int32) (heavyF : Nat → Int32) (wideF : Nat → Int32) (hotF : Nat → Int32) (placeF : Nat → Int32) (signsF : Nat → Int32) (ns : Nat) (z0 : Int32) : Nat → Int32
  | 0 => z0
  | t + 1 => s_X13_billNow_4s nt mv toldF limitF costF boardF kindF heavyF wideF hotF placeF signsF ns t (s_X13_billNow_4 nt mv toldF limitF costF boardF kindF heavyF wideF hotF placeF signsF ns z0 t)
def s_X13_billNow_53s (nq : Nat) (heavyF : Nat → Int32) (valueF : Nat → Int32) (placeF : Nat → Int32) (postToF : Nat → Int32) (priceF : Nat → Int32) (t53 : Nat) (x53_1 : Int32) : Int32 := if (placeF t53) = 20 then (x53_1 + (valueF t53)) else if (placeF t53) = 21 then (x53_1 + (s_X13_priceOf nq heavyF postToF priceF (nI t53))) else (x53_1 + 0)
def s_X13_billNow_53 (nq : Nat) (heavyF : Nat → Int32) (valueF : Nat → Int32) (placeF : Nat → Int32) (postToF : Nat → Int32) (priceF : Nat → Int32) (z0 : Int32) : Nat → Int32
  | 0 => z0
  | t + 1 => s_X13_billNow_53s nq heavyF valueF placeF postToF priceF t (s_X13_billNow_53 nq heavyF valueF placeF postToF priceF z0 t)
def s_X13_billNow (nt : Nat) (nc : Nat) (nq : Nat) (mv : Nat → Int32) (toldF : Nat → Int32) (limitF : Nat → Int32) (costF : Nat → Int32) (boardF : Nat → Int32) (kindF : Nat → Int32) (heavyF : Nat → Int32) (wideF : Nat → Int32) (valueF : Nat → Int32) (hotF : Nat → Int32) (placeF : Nat → Int32) (postToF : Nat → Int32) (priceF : Nat → Int32) (signsF : Nat → Int32) (ns : Nat) : Int32 := (s_X13_billNow_53 nq heavyF valueF placeF postToF priceF (s_X13_billNow_4 nt mv toldF limitF costF boardF kindF heavyF wideF hotF placeF signsF ns 0 nc) nt)
set_option maxHeartbeats 4000000 in
set_option maxRecDepth 100000 in
theorem c_X13_billNow (l : Launch) (D : va_G) (cB cI cJ : ClassId) (ad : Nat → Nat) (n : Nat) (M : Nat → va_E) (hI : ipI ad n) (mb : Nat) (nt : Nat) (nc : Nat) (np : Nat) (nq : Nat) (mv : Nat → Int32) (toldF : Nat → Int32) (limitF : Nat → Int32) (costF : Nat → Int32) (boardF : Nat → Int32) (kindF : Nat → Int32) (heavyF : Nat → Int32) (wideF : Nat → Int32) (valueF : Nat → Int32) (hotF : Nat → Int32) (placeF : Nat → Int32) (postToF : Nat → Int32) (priceF : Nat → Int32) (signsF : Nat → Int32) (askedF : Nat → Int32) (stackF : Nat → Int32) (ns : Nat) (h_mb : mb < n) (h_mb_3 : mb + 3 < n) (h_mb_8 : mb + 8 < n) (h_mb_10 : mb + 10 < n) (h_mb_11 : mb + 11 < n) (h_mb_12 : mb + 12 < n) (h_mb_13 : mb + 13 < n) (h_mb_15 : mb + 15 < n) (h_mb_16 : mb + 16 < n) (h_mb_17 : mb + 17 < n) (h_mb_18 : mb + 18 < n) (h_mb_19 : mb + 19 < n) (h_mb_20 : mb + 20 < n) (h_mb_21 : mb + 21 < n) (h_mb_24 : mb + 24 < n) (h_mb_25 : mb + 25 < n) (m_mb : M mb = .inr (12, modF ad mb mv)) (m_mb_3 : M (mb + 3) = .inl (cI, 14, .inl toldF)) (m_mb_8 : M (mb + 8) = .inl (cI, 10, .inl limitF)) (m_mb_10 : M (mb + 10) = .inl (cI, 10, .inl costF)) (m_mb_11 : M (mb + 11) = .inl (cI, 10, .inl boardF)) (m_mb_12 : M (mb + 12) = .inl (cI, 24, .inl kindF)) (m_mb_13 : M (mb + 13) = .inl (cI, 24, .inl heavyF)) (m_mb_15 : M (mb + 15) = .inl (cI, 24, .inl wideF)) (m_mb_16 : M (mb + 16) = .inl (cI, 24, .inl valueF)) (m_mb_17 : M (mb + 17) = .inl (cI, 24, .inl hotF)) (m_mb_18 : M (mb + 18) = .inl (cI, 24, .inl placeF)) (m_mb_19 : M (mb + 19) = .inl (cI, 12, .inl postToF)) (m_mb_20 : M (mb + 20) = .inl (cI, 12, .inl priceF)) (m_mb_21 : M (mb + 21) = .inl (cI, 1400, .inl signsF)) (m_mb_24 : M (mb + 24) = .inl (cI, 5, .inl askedF)) (m_mb_25 : M (mb + 25) = .inl (cI, 64, .inl stackF)) (k0 : toldF 0 = nI np) (hnp : np ≤ 4) (k1 : toldF 1 = nI nc) (hnc : nc ≤ 5) (k2 : toldF 2 = nI nt) (hnt : nt ≤ 12) (k3 : toldF 3 = nI nq) (hnq : nq ≤ 6) (k6 : toldF 6 = nI ns) (hns : ns ≤ 700) (hMK : mOK signsF ns) (hMR : mRule signsF ns) : cWi l D cB cI cJ ad n M yX13_billNow wsX13_billNow 4 90 [.ref (ad mb)] (fun r M' => ∃ (v0__ : Nat → Int32) (v1__ : Nat → Int32), r = s_X13_billNow nt nc nq mv toldF limitF costF boardF kindF heavyF wideF valueF hotF placeF postToF priceF signsF ns ∧ M' (mb + 24) = .inl (cI, 5, .inl v0__) ∧ M' (mb + 25) = .inl (cI, 64, .inl v1__) ∧ ∀ q : Nat, q ≠ mb + 24 → q ≠ mb + 25 → M' q = M q) := by
  refine q_body (cc := cX13_billNow) (maxL := 3) (ret := (some .int)) (by decide) rfl (Nat.le_of_ble_eq_true rfl) ?_
  intro p e s m args below meth c ls X hr hlocks hK hP hl
  obtain ⟨hx, hb, hml, hown, hts⟩ := id X
  have hS : va_S (ipA ad n) s.heap s.heap [] := va_S.rf
  have hl : lv_has ls 3 [(0, .ref (ad mb))] := hl
  refine lv_iconst (v := 0) hx hb dX13_billNow_0 (by decide) ?_
  refine lv_istore_n (lv' := [(1, .int 0), (0, .ref (ad mb))]) hx hb dX13_billNow_1 rfl hl (by decide) rfl (fun ls hl => ?_)
  refine lv_iconst (v := 0) hx hb dX13_billNow_2 (by decide) ?_
  refine lv_istore_n (lv' := [(2, .int 0), (1, .int 0), (0, .ref (ad mb))]) hx hb dX13_billNow_3 rfl hl (by decide) rfl (fun ls hl => ?_)
  have loop_4 : ∀ (fuel : Nat) (t4 : Nat) (x4_1 : Int32) (y4_0 : Nat → Int32) (y4_1 : Nat → Int32), nc - (t4) < fuel → t4 ≤ nc → x4_1 = (s_X13_billNow_4 nt mv toldF limitF costF boardF kindF heavyF wideF hotF placeF signsF ns 0 t4) → ∀ (ML4 : Nat → va_E) (H : Heap) (locs : List Loc), ML4 (mb + 24) = .inl (cI, 5, .inl y4_0) → ML4 (mb + 25) = .inl (cI, 64, .inl y4_1) → (∀ q : Nat, q ≠ mb + 24 → q ≠ mb + 25 → ML4 q = M q) → va_P D vwCl (ip ad n ML4) H → va_S (ipA ad n) s.heap H locs → ∀ (ls : Array Slot), lv_has ls 3 [(2, .int (nI t4)), (1, .int x4_1), (0, .ref (ad mb))] → W p l e (rmOf 4 90) s m args below meth c H locs 0 0 (MQ below (va_Qi (fun r M' => ∃ (v0__ : Nat → Int32) (v1__ : Nat → Int32), r = s_X13_billNow nt nc nq mv toldF limitF costF boardF kindF heavyF wideF valueF hotF placeF postToF priceF signsF ns ∧ M' (mb + 24) = .inl (cI, 5, .inl v0__) ∧ M' (mb + 25) = .inl (cI, 64, .inl v1__) ∧ ∀ q : Nat, q ≠ mb + 24 → q ≠ mb + 25 → M' q = M q) (fun M' t => va_P D vwCl (ip ad n M') t.heap) (ipA ad n)) args s 0 0 (ipA ad n)) (F0 m 4 ls []) := by
    intro fuel
    induction fuel with
    | zero =>
      intro t4 x4_1 y4_0 y4_1 hz
      exact absurd hz (Nat.not_lt_zero _)
    | succ fuel ih_4 =>
      intro t4 x4_1 y4_0 y4_1 hz_4 h_t4 e_x4_1 ML4 H locs mL4_0 mL4_1 fL4 hP hS ls hl
      skip
      refine lv_iload_n hx hb dX13_billNow_4 rfl (lv_at hl 0 rfl) ?_
      refine lv_aload_n hx hb dX13_billNow_5 rfl (lv_at hl 2 rfl) ?_
      refine q_get (v := .ref (ad (mb + 3))) (fs := modF ad mb mv) X hK hP fX13_billNow_40 h_mb ((fL4 mb (by omega) (by omega)).trans m_mb) rfl dX13_billNow_6 ?_
      refine lv_iconst (v := 1) hx hb dX13_billNow_9 (by decide) ?_
      refine q_ialdN (f := toldF) (k := 14) X hK hP 1 h_mb_3 ((fL4 (mb + 3) (by omega) (by omega)).trans m_mb_3) (by decide) (by decide) dX13_billNow_10 ?_
      refine lv_icmp_ge (tgt := 51) hx hb dX13_billNow_11 (by decide) (fun c_11 => ?_) (fun c_11 => ?_)
      · rw [k1] at c_11
        have h9_4 : t4 = nc := eq_of_le (t := t4) (k := nc) c_11 (by omega) h_t4
        subst t4
        subst e_x4_1
        refine lv_iconst (v := 0) hx hb dX13_billNow_51 (by decide) ?_
        refine lv_istore_n (lv' := [(2, .int 0), (1, .int (s_X13_billNow_4 nt mv toldF limitF costF boardF kindF heavyF wideF hotF placeF signsF ns 0 nc)), (0, .ref (ad mb))]) hx hb dX13_billNow_52 rfl hl (by decide) rfl (fun ls hl => ?_)
        have loop_53 : ∀ (fuel : Nat) (t53 : Nat) (x53_1 : Int32), nt - (t53) < fuel → t53 ≤ nt → x53_1 = (s_X13_billNow_53 nq heavyF valueF placeF postToF priceF (s_X13_billNow_4 nt mv toldF limitF costF boardF kindF heavyF wideF hotF placeF signsF ns 0 nc) t53) → ∀ (ML53 : Nat → va_E) (H : Heap) (locs : List Loc), (∀ q : Nat, ML53 q = ML4 q) → va_P D vwCl (ip ad n ML53) H → va_S (ipA ad n) s.heap H locs → ∀ (ls : Array Slot), lv_has ls 3 [(2, .int (nI t53)), (1, .int x53_1), (0, .ref (ad mb))] → W p l e (rmOf 4 90) s m args below meth c H locs 0 0 (MQ below (va_Qi (fun r M' => ∃ (v0__ : Nat → Int32) (v1__ : Nat → Int32), r = s_X13_billNow nt nc nq mv toldF limitF costF boardF kindF heavyF wideF valueF hotF placeF postToF priceF signsF ns ∧ M' (mb + 24) = .inl (cI, 5, .inl v0__) ∧ M' (mb + 25) = .inl (cI, 64, .inl v1__) ∧ ∀ q : Nat, q ≠ mb + 24 → q ≠ mb + 25 → M' q = M q) (fun M' t => va_P D vwCl (ip ad n M') t.heap) (ipA ad n)) args s 0 0 (ipA ad n)) (F0 m 53 ls []) := by
          intro fuel
          induction fuel with
          | zero =>
            intro t53 x53_1 hz
            exact absurd hz (Nat.not_lt_zero _)
          | succ fuel ih_53 =>
            intro t53 x53_1 hz_53 h_t53 e_x53_1 ML53 H locs fL53 hP hS ls hl
            skip
            refine lv_iload_n hx hb dX13_billNow_53 rfl (lv_at hl 0 rfl) ?_
            refine lv_aload_n hx hb dX13_billNow_54 rfl (lv_at hl 2 rfl) ?_
            refine q_get (v := .ref (ad (mb + 3))) (fs := modF ad mb mv) X hK hP fX13_billNow_40 h_mb ((fL53 mb ).trans ((fL4 mb (by omega) (by omega)).trans m_mb)) rfl dX13_billNow_55 ?_
            refine lv_iconst (v := 2) hx hb dX13_billNow_58 (by decide) ?_
            refine q_ialdN (f := toldF) (k := 14) X hK hP 2 h_mb_3 ((fL53 (mb + 3) ).trans ((fL4 (mb + 3) (by omega) (by omega)).trans m_mb_3)) (by decide) (by decide) dX13_billNow_59 ?_
            refine lv_icmp_ge (tgt := 112) hx hb dX13_billNow_60 (by decide) (fun c_60 => ?_) (fun c_60 => ?_)
            · rw [k2] at c_60
              have h9_53 : t53 = nt := eq_of_le (t := t53) (k := nt) c_60 (by omega) h_t53
              subst t53
              subst e_x53_1
              refine lv_iload_n hx hb dX13_billNow_112 rfl (lv_at hl 1 rfl) ?_
              exact q_wzret X hr hlocks hP hS (rfl) ⟨_, _, (by rfl), ((fL53 (mb + 24) ).trans mL4_0), ((fL53 (mb + 25) ).trans mL4_1), (fun q n0 n1 => ((fL53 q).trans (fL4 q n0 n1)))⟩ dX13_billNow_113
            · rw [k2] at c_60
              have h9_53 : t53 < nt := lt_of_nlt (t := t53) (k := nt) c_60 (by omega) h_t53
              refine lv_iload_n hx hb dX13_billNow_63 rfl (lv_at hl 1 rfl) ?_
              refine lv_aload_n hx hb dX13_billNow_64 rfl (lv_at hl 2 rfl) ?_
              refine q_get (v := .ref (ad (mb + 18))) (fs := modF ad mb mv) X hK hP fX13_billNow_84 h_mb ((fL53 mb ).trans ((fL4 mb (by omega) (by omega)).trans m_mb)) rfl dX13_billNow_65 ?_
              refine lv_iload_n hx hb dX13_billNow_68 rfl (lv_at hl 0 rfl) ?_
              refine q_ialdN (f := placeF) (k := 24) X hK hP t53 h_mb_18 ((fL53 (mb + 18) ).trans ((fL4 (mb + 18) (by omega) (by omega)).trans m_mb_18)) (by omega) (by decide) dX13_billNow_69 ?_
              refine lv_bipush (v := 20) hx hb dX13_billNow_70 (by decide) ?_
              refine lv_icmp_ne (tgt := 84) hx hb dX13_billNow_72 (by decide) (fun c_72 => ?_) (fun c_72 => ?_)
              · skip
                refine lv_aload_n hx hb dX13_billNow_84 rfl (lv_at hl 2 rfl) ?_
                refine q_get (v := .ref (ad (mb + 18))) (fs := modF ad mb mv) X hK hP fX13_billNow_84 h_mb ((fL53 mb ).trans ((fL4 mb (by omega) (by omega)).trans m_mb)) rfl dX13_billNow_85 ?_
                refine lv_iload_n hx hb dX13_billNow_88 rfl (lv_at hl 0 rfl) ?_
                refine q_ialdN (f := placeF) (k := 24) X hK hP t53 h_mb_18 ((fL53 (mb + 18) ).trans ((fL4 (mb + 18) (by omega) (by omega)).trans m_mb_18)) (by omega) (by decide) dX13_billNow_89 ?_
                refine lv_bipush (v := 21) hx hb dX13_billNow_90 (by decide) ?_
                refine lv_icmp_ne (tgt := 103) hx hb dX13_billNow_92 (by decide) (fun c_92 => ?_) (fun c_92 => ?_)
                · skip
                  refine lv_iconst (v := 0) hx hb dX13_billNow_103 (by decide) ?_
                  refine lv_iadd hx hb dX13_billNow_104 ?_
                  refine lv_istore_n (lv' := [(1, .int (x53_1 + 0)), (2, .int (nI t53)), (0, .ref (ad mb))]) hx hb dX13_billNow_105 rfl hl (by decide) rfl (fun ls hl => ?_)
                  refine lv_iinc (v := ((nI t53) + 1)) (lv' := [(2, .int ((nI t53) + 1)), (1, .int (x53_1 + 0)), (0, .ref (ad mb))]) hx hb dX13_billNow_106 hl (k := 1) rfl rfl (by decide) rfl (fun ls hl => ?_)
                  refine lv_goto (tgt := 53) hx hb dX13_billNow_109 (by decide) ?_
                  exact ih_53 (t53 + 1) (x53_1 + 0) (by omega) (by omega) (by rw [s_X13_billNow_53, ← e_x53_1, s_X13_billNow_53s, if_neg c_72, if_neg c_92]) _ _ _ (fun q => (fL53 q)) hP hS ls (by rw [(show nI (t53 + 1) = nI t53 + 1 by exact nI_succ _)]; exact lv_sub hl [0, 1, 2] rfl)
                · skip
                  refine lv_aload_n hx hb dX13_billNow_95 rfl (lv_at hl 2 rfl) ?_
                  refine lv_iload_n hx hb dX13_billNow_96 rfl (lv_at hl 0 rfl) ?_
                  refine q_rdV (As := [.int (nI t53)]) (rest := [.int x53_1]) (c_X13_priceOf l D cB cI cJ ad n ML53 mb nt nc np nq mv toldF heavyF postToF priceF (nI t53) h_mb h_mb_3 h_mb_13 h_mb_19 h_mb_20 ((fL53 mb ).trans ((fL4 mb (by omega) (by omega)).trans m_mb)) ((fL53 (mb + 3) ).trans ((fL4 (mb + 3) (by omega) (by omega)).trans m_mb_3)) ((fL53 (mb + 13) ).trans ((fL4 (mb + 13) (by omega) (by omega)).trans m_mb_13)) ((fL53 (mb + 19) ).trans ((fL4 (mb + 19) (by omega) (by omega)).trans m_mb_19)) ((fL53 (mb + 20) ).trans ((fL4 (mb + 20) (by omega) (by omega)).trans m_mb_20)) k0 hnp k1 hnc k2 hnt k3 hnq (by first | assumption | omega | exact vp_in_nI (by omega) (by decide) | exact vp_in_iff.mpr (by decide))) X hK hP hS hl.1 rfl gX13_billNow_X13_priceOf yd_X13_priceOf ⟨Nat.le_of_ble_eq_true rfl, Nat.le_of_ble_eq_true rfl⟩ h_mb ((fL53 mb ).trans ((fL4 mb (by omega) (by omega)).trans m_mb)) (ci := 12) rfl rfl (Nat.le_of_ble_eq_true rfl) ⟨Nat.zero_le _, Nat.zero_le _⟩ dX13_billNow_97 ?_
                  refine lv_goto (tgt := 104) hx hb dX13_billNow_100 (by decide) ?_
                  refine lv_iadd hx hb dX13_billNow_104 ?_
                  refine lv_istore_n (lv' := [(1, .int (x53_1 + (s_X13_priceOf nq heavyF postToF priceF (nI t53)))), (2, .int (nI t53)), (0, .ref (ad mb))]) hx hb dX13_billNow_105 rfl hl (by decide) rfl (fun ls hl => ?_)
                  refine lv_iinc (v := ((nI t53) + 1)) (lv' := [(2, .int ((nI t53) + 1)), (1, .int (x53_1 + (s_X13_priceOf nq heavyF postToF priceF (nI t53)))), (0, .ref (ad mb))]) hx hb dX13_billNow_106 hl (k := 1) rfl rfl (by decide) rfl (fun ls hl => ?_)
                  refine lv_goto (tgt := 53) hx hb dX13_billNow_109 (by decide) ?_
                  exact ih_53 (t53 + 1) (x53_1 + (s_X13_priceOf nq heavyF postToF priceF (nI t53))) (by omega) (by omega) (by rw [s_X13_billNow_53, ← e_x53_1, s_X13_billNow_53s, if_neg c_72, if_pos c_92]) _ _ _ (fun q => (fL53 q)) hP hS ls (by rw [(show nI (t53 + 1) = nI t53 + 1 by exact nI_succ _)]; exact lv_sub hl [0, 1, 2] rfl)
              · skip
                refine lv_aload_n hx hb dX13_billNow_75 rfl (lv_at hl 2 rfl) ?_
                refine q_get (v := .ref (ad (mb + 16))) (fs := modF ad mb mv) X hK hP fX13_billNow_78 h_mb ((fL53 mb ).trans ((fL4 mb (by omega) (by omega)).trans m_mb)) rfl dX13_billNow_76 ?_
                refine lv_iload_n hx hb dX13_billNow_79 rfl (lv_at hl 0 rfl) ?_
                refine q_ialdN (f := valueF) (k := 24) X hK hP t53 h_mb_16 ((fL53 (mb + 16) ).trans ((fL4 (mb + 16) (by omega) (by omega)).trans m_mb_16)) (by omega) (by decide) dX13_billNow_80 ?_
                refine lv_goto (tgt := 104) hx hb dX13_billNow_81 (by decide) ?_
                refine lv_iadd hx hb dX13_billNow_104 ?_
                refine lv_istore_n (lv' := [(1, .int (x53_1 + (valueF t53))), (2, .int (nI t53)), (0, .ref (ad mb))]) hx hb dX13_billNow_105 rfl hl (by decide) rfl (fun ls hl => ?_)
                refine lv_iinc (v := ((nI t53) + 1)) (lv' := [(2, .int ((nI t53) + 1)), (1, .int (x53_1 + (valueF t53))), (0, .ref (ad mb))]) hx hb dX13_billNow_106 hl (k := 1) rfl rfl (by decide) rfl (fun ls hl => ?_)
                refine lv_goto (tgt := 53) hx hb dX13_billNow_109 (by decide) ?_
                exact ih_53 (t53 + 1) (x53_1 + (valueF t53)) (by omega) (by omega) (by rw [s_X13_billNow_53, ← e_x53_1, s_X13_billNow_53s, if_pos c_72]) _ _ _ (fun q => (fL53 q)) hP hS ls (by rw [(show nI (t53 + 1) = nI t53 + 1 by exact nI_succ _)]; exact lv_sub hl [0, 1, 2] rfl)
        exact loop_53 (nt + 1) 0 (s_X13_billNow_4 nt mv toldF limitF costF boardF kindF heavyF wideF hotF placeF signsF ns 0 nc) (by omega) (by omega) (by rfl) _ _ _ (fun q => rfl) hP hS ls (lv_sub hl [0, 1, 2] rfl)
      · rw [k1] at c_11
        have h9_4 : t4 < nc := lt_of_nlt (t := t4) (k := nc) c_11 (by omega) h_t4
        refine lv_iload_n hx hb dX13_billNow_14 rfl (lv_at hl 1 rfl) ?_
        refine lv_aload_n hx hb dX13_billNow_15 rfl (lv_at hl 2 rfl) ?_
        refine lv_iload_n hx hb dX13_billNow_16 rfl (lv_at hl 0 rfl) ?_
        refine q_wrVi (As := [.int (nI t4)]) (rest := [.int x4_1]) (c_X13_feeOf l D cB cI cJ ad n ML4 hI mb nt nc np nq mv toldF limitF boardF kindF heavyF wideF hotF placeF signsF y4_0 y4_1 ns (nI t4) h_mb h_mb_3 h_mb_8 h_mb_11 h_mb_12 h_mb_13 h_mb_15 h_mb_17 h_mb_18 h_mb_21 h_mb_24 h_mb_25 ((fL4 mb (by omega) (by omega)).trans m_mb) ((fL4 (mb + 3) (by omega) (by omega)).trans m_mb_3) ((fL4 (mb + 8) (by omega) (by omega)).trans m_mb_8) ((fL4 (mb + 11) (by omega) (by omega)).trans m_mb_11) ((fL4 (mb + 12) (by omega) (by omega)).trans m_mb_12) ((fL4 (mb + 13) (by omega) (by omega)).trans m_mb_13) ((fL4 (mb + 15) (by omega) (by omega)).trans m_mb_15) ((fL4 (mb + 17) (by omega) (by omega)).trans m_mb_17) ((fL4 (mb + 18) (by omega) (by omega)).trans m_mb_18) ((fL4 (mb + 21) (by omega) (by omega)).trans m_mb_21) mL4_0 mL4_1 k0 hnp k1 hnc k2 hnt k3 hnq k6 hns hMK hMR (by first | assumption | omega | exact vp_in_nI (by omega) (by decide) | exact vp_in_iff.mpr (by decide))) X hK hP hS hl.1 rfl gX13_billNow_X13_feeOf yd_X13_feeOf ⟨Nat.le_of_ble_eq_true rfl, Nat.le_of_ble_eq_true rfl⟩ h_mb ((fL4 mb (by omega) (by omega)).trans m_mb) (ci := 12) rfl rfl (Nat.le_of_ble_eq_true rfl) ⟨Nat.zero_le _, Nat.zero_le _⟩ dX13_billNow_17 (fun r3 M2 H locs hp1 hP hS => ?_)
        obtain ⟨v0___4, v1___5, rfl, g6, g7, fr8⟩ := hp1
        refine lv_aload_n hx hb dX13_billNow_20 rfl (lv_at hl 2 rfl) ?_
        refine q_get (v := .int (mv 36)) (fs := modF ad mb mv) X hK hP fX13_billNow_331 h_mb ((fr8 mb (by omega) (by omega)).trans ((fL4 mb (by omega) (by omega)).trans m_mb)) rfl dX13_billNow_21 ?_
        refine lv_iload_n hx hb dX13_billNow_24 rfl (lv_at hl 0 rfl) ?_
        refine lv_ishr hx hb dX13_billNow_25 ?_
        refine lv_iconst (v := 1) hx hb dX13_billNow_26 (by decide) ?_
        refine lv_iand hx hb dX13_billNow_27 ?_
        refine lv_iconst (v := 1) hx hb dX13_billNow_28 (by decide) ?_
        refine lv_icmp_ne (tgt := 41) hx hb dX13_billNow_29 (by decide) (fun c_29 => ?_) (fun c_29 => ?_)
        · skip
          refine lv_iconst (v := 0) hx hb dX13_billNow_41 (by decide) ?_
          refine lv_iadd hx hb dX13_billNow_42 ?_
          refine lv_iadd hx hb dX13_billNow_43 ?_
          refine lv_istore_n (lv' := [(1, .int (x4_1 + ((s_X13_feeOf nt toldF limitF boardF kindF heavyF wideF hotF placeF signsF ns (nI t4)) + 0))), (2, .int (nI t4)), (0, .ref (ad mb))]) hx hb dX13_billNow_44 rfl hl (by decide) rfl (fun ls hl => ?_)
          refine lv_iinc (v := ((nI t4) + 1)) (lv' := [(2, .int ((nI t4) + 1)), (1, .int (x4_1 + ((s_X13_feeOf nt toldF limitF boardF kindF heavyF wideF hotF placeF signsF ns (nI t4)) + 0))), (0, .ref (ad mb))]) hx hb dX13_billNow_45 hl (k := 1) rfl rfl (by decide) rfl (fun ls hl => ?_)
          refine lv_goto (tgt := 4) hx hb dX13_billNow_48 (by decide) ?_
          exact ih_4 (t4 + 1) (x4_1 + ((s_X13_feeOf nt toldF limitF boardF kindF heavyF wideF hotF placeF signsF ns (nI t4)) + 0)) v0___4 v1___5 (by omega) (by omega) (by rw [s_X13_billNow_4, ← e_x4_1, s_X13_billNow_4s, if_neg c_29]) _ _ _ g6 g7 (fun q n0 n1 => ((fr8 q n0 n1).trans (fL4 q n0 n1))) hP hS ls (by rw [(show nI (t4 + 1) = nI t4 + 1 by exact nI_succ _)]; exact lv_sub hl [0, 1, 2] rfl)
        · skip
          refine lv_aload_n hx hb dX13_billNow_32 rfl (lv_at hl 2 rfl) ?_
          refine q_get (v := .ref (ad (mb + 10))) (fs := modF ad mb mv) X hK hP fX13_billNow_61 h_mb ((fr8 mb (by omega) (by omega)).trans ((fL4 mb (by omega) (by omega)).trans m_mb)) rfl dX13_billNow_33 ?_
          refine lv_iload_n hx hb dX13_billNow_36 rfl (lv_at hl 0 rfl) ?_
          refine q_ialdN (f := costF) (k := 10) X hK hP t4 h_mb_10 ((fr8 (mb + 10) (by omega) (by omega)).trans ((fL4 (mb + 10) (by omega) (by omega)).trans m_mb_10)) (by omega) (by decide) dX13_billNow_37 ?_
          refine lv_goto (tgt := 42) hx hb dX13_billNow_38 (by decide) ?_
          refine lv_iadd hx hb dX13_billNow_42 ?_
          refine lv_iadd hx hb dX13_billNow_43 ?_
          refine lv_istore_n (lv' := [(1, .int (x4_1 + ((s_X13_feeOf nt toldF limitF boardF kindF heavyF wideF hotF placeF signsF ns (nI t4)) + (costF t4)))), (2, .int (nI t4)), (0, .ref (ad mb))]) hx hb dX13_billNow_44 rfl hl (by decide) rfl (fun ls hl => ?_)
          refine lv_iinc (v := ((nI t4) + 1)) (lv' := [(2, .int ((nI t4) + 1)), (1, .int (x4_1 + ((s_X13_feeOf nt toldF limitF boardF kindF heavyF wideF hotF placeF signsF ns (nI t4)) + (costF t4)))), (0, .ref (ad mb))]) hx hb dX13_billNow_45 hl (k := 1) rfl rfl (by decide) rfl (fun ls hl => ?_)
          refine lv_goto (tgt := 4) hx hb dX13_billNow_48 (by decide) ?_
          exact ih_4 (t4 + 1) (x4_1 + ((s_X13_feeOf nt toldF limitF boardF kindF heavyF wideF hotF placeF signsF ns (nI t4)) + (costF t4))) v0___4 v1___5 (by omega) (by omega) (by rw [s_X13_billNow_4, ← e_x4_1, s_X13_billNow_4s, if_pos c_29]) _ _ _ g6 g7 (fun q n0 n1 => ((fr8 q n0 n1).trans (fL4 q n0 n1))) hP hS ls (by rw [(show nI (t4 + 1) = nI t4 + 1 by exact nI_succ _)]; exact lv_sub hl [0, 1, 2] rfl)
  exact loop_4 (nc + 1) 0 0 askedF stackF (by omega) (by omega) (by rfl) _ _ _ m_mb_24 m_mb_25 (fun q n0 n1 => rfl) hP hS ls (lv_sub hl [0, 1, 2] rfl)
set_option maxRecDepth 20000 in
theorem fX13_bill_173 : FL wsX13_bill RX13 173 12 2 := ⟨RX13, TX13, 67, rfl, by decide +kernel, by decide, by decide +kernel⟩
theorem yd_X13_billNow : YD yX13_billNow 0 := ⟨by decide +kernel, by decide +kernel, by decide +kernel⟩
def s_X13_bill (nt : Nat) (nc : Nat) (nq : Nat) (mv : Nat → Int32) (toldF : Nat → Int32) (limitF : Nat → Int32) (costF : Nat → Int32) (boardF : Nat → Int32) (kindF : Nat → Int32) (heavyF : Nat → Int32) (wideF : Nat → Int32) (valueF : Nat → Int32) (hotF : Nat → Int32) (placeF : Nat → Int32) (postToF : Nat → Int32) (priceF : Nat → Int32) (signsF : Nat → Int32) (ns : Nat) : Int32 := (s_X13_billNow nt nc nq (upd mv 2 0) toldF limitF costF boardF kindF heavyF wideF valueF hotF placeF postToF priceF signsF ns)
set_option maxHeartbeats 4000000 in
set_option maxRecDepth 100000 in
theorem c_X13_bill (l : Launch) (D : va_G) (cB cI cJ : ClassId) (ad : Nat → Nat) (n : Nat) (M : Nat → va_E) (hI : ipI ad n) (mb : Nat) (nt : Nat) (nc : Nat) (np : Nat) (nq : Nat) (mv : Nat → Int32) (toldF : Nat → Int32) (limitF : Nat → Int32) (costF : Nat → Int32) (boardF : Nat → Int32) (kindF : Nat → Int32) (heavyF : Nat → Int32) (wideF : Nat → Int32) (valueF : Nat → Int32) (hotF : Nat → Int32) (placeF : Nat → Int32) (postToF : Nat → Int32) (priceF : Nat → Int32) (signsF : Nat → Int32) (askedF : Nat → Int32) (stackF : Nat → Int32) (ns : Nat) (h_mb : mb < n) (h_mb_3 : mb + 3 < n) (h_mb_8 : mb + 8 < n) (h_mb_10 : mb + 10 < n) (h_mb_11 : mb + 11 < n) (h_mb_12 : mb + 12 < n) (h_mb_13 : mb + 13 < n) (h_mb_15 : mb + 15 < n) (h_mb_16 : mb + 16 < n) (h_mb_17 : mb + 17 < n) (h_mb_18 : mb + 18 < n) (h_mb_19 : mb + 19 < n) (h_mb_20 : mb + 20 < n) (h_mb_21 : mb + 21 < n) (h_mb_24 : mb + 24 < n) (h_mb_25 : mb + 25 < n) (m_mb : M mb = .inr (12, modF ad mb mv)) (m_mb_3 : M (mb + 3) = .inl (cI, 14, .inl toldF)) (m_mb_8 : M (mb + 8) = .inl (cI, 10, .inl limitF)) (m_mb_10 : M (mb + 10) = .inl (cI, 10, .inl costF)) (m_mb_11 : M (mb + 11) = .inl (cI, 10, .inl boardF)) (m_mb_12 : M (mb + 12) = .inl (cI, 24, .inl kindF)) (m_mb_13 : M (mb + 13) = .inl (cI, 24, .inl heavyF)) (m_mb_15 : M (mb + 15) = .inl (cI, 24, .inl wideF)) (m_mb_16 : M (mb + 16) = .inl (cI, 24, .inl valueF)) (m_mb_17 : M (mb + 17) = .inl (cI, 24, .inl hotF)) (m_mb_18 : M (mb + 18) = .inl (cI, 24, .inl placeF)) (m_mb_19 : M (mb + 19) = .inl (cI, 12, .inl postToF)) (m_mb_20 : M (mb + 20) = .inl (cI, 12, .inl priceF)) (m_mb_21 : M (mb + 21) = .inl (cI, 1400, .inl signsF)) (m_mb_24 : M (mb + 24) = .inl (cI, 5, .inl askedF)) (m_mb_25 : M (mb + 25) = .inl (cI, 64, .inl stackF)) (k0 : toldF 0 = nI np) (hnp : np ≤ 4) (k1 : toldF 1 = nI nc) (hnc : nc ≤ 5) (k2 : toldF 2 = nI nt) (hnt : nt ≤ 12) (k3 : toldF 3 = nI nq) (hnq : nq ≤ 6) (k6 : toldF 6 = nI ns) (hns : ns ≤ 700) (hMK : mOK signsF ns) (hMR : mRule signsF ns) : cWi l D cB cI cJ ad n M yX13_bill wsX13_bill 5 112 [.ref (ad mb)] (fun r M' => ∃ (v0__ : Nat → Int32) (v1__ : Nat → Int32), r = s_X13_bill nt nc nq mv toldF limitF costF boardF kindF heavyF wideF valueF hotF placeF postToF priceF signsF ns ∧ M' mb = .inr (12, modF ad mb (upd mv 2 0)) ∧ M' (mb + 24) = .inl (cI, 5, .inl v0__) ∧ M' (mb + 25) = .inl (cI, 64, .inl v1__) ∧ ∀ q : Nat, q ≠ mb → q ≠ mb + 24 → q ≠ mb + 25 → M' q = M q) := by
  refine q_body (cc := cX13_bill) (maxL := 1) (ret := (some .int)) (by decide) rfl (Nat.le_of_ble_eq_true rfl) ?_
  intro p e s m args below meth c ls X hr hlocks hK hP hl
  obtain ⟨hx, hb, hml, hown, hts⟩ := id X
  have hS : va_S (ipA ad n) s.heap s.heap [] := va_S.rf
  have hl : lv_has ls 1 [(0, .ref (ad mb))] := hl
  refine lv_aload_n hx hb dX13_bill_0 rfl (lv_at hl 0 rfl) ?_
  refine lv_iconst (v := 0) hx hb dX13_bill_1 (by decide) ?_
  refine q_put (fs := modF ad mb mv) (fs' := modF ad mb (upd mv 2 0)) X hK hI hP hS fX13_bill_173 fw_12_2 h_mb m_mb rfl rfl (Nat.le_of_ble_eq_true rfl) rfl dX13_bill_2 (fun H locs hP hS => ?_)
  refine lv_aload_n hx hb dX13_bill_5 rfl (lv_at hl 0 rfl) ?_
  refine q_wrVi (As := []) (rest := []) (c_X13_billNow l D cB cI cJ ad n (va_up M mb (.inr (12, modF ad mb (upd mv 2 0)))) hI mb nt nc np nq (upd mv 2 0) toldF limitF costF boardF kindF heavyF wideF valueF hotF placeF postToF priceF signsF askedF stackF ns h_mb h_mb_3 h_mb_8 h_mb_10 h_mb_11 h_mb_12 h_mb_13 h_mb_15 h_mb_16 h_mb_17 h_mb_18 h_mb_19 h_mb_20 h_mb_21 h_mb_24 h_mb_25 (va_up_self M mb (.inr (12, modF ad mb (upd mv 2 0)))) ((va_up_ne M (.inr (12, modF ad mb (upd mv 2 0))) (show mb + 3 ≠ mb by omega)).trans m_mb_3) ((va_up_ne M (.inr (12, modF ad mb (upd mv 2 0))) (show mb + 8 ≠ mb by omega)).trans m_mb_8) ((va_up_ne M (.inr (12, modF ad mb (upd mv 2 0))) (show mb + 10 ≠ mb by omega)).trans m_mb_10) ((va_up_ne M (.inr (12, modF ad mb (upd mv 2 0))) (show mb + 11 ≠ mb by omega)).trans m_mb_11) ((va_up_ne M (.inr (12, modF ad mb (upd mv 2 0))) (show mb + 12 ≠ mb by omega)).trans m_mb_12) ((va_up_ne M (.inr (12, modF ad mb (upd mv 2 0))) (show mb + 13 ≠ mb by omega)).trans m_mb_13) ((va_up_ne M (.inr (12, modF ad mb (upd mv 2 0))) (show mb + 15 ≠ mb by omega)).trans m_mb_15) ((va_up_ne M (.inr (12, modF ad mb (upd mv 2 0))) (show mb + 16 ≠ mb by omega)).trans m_mb_16) ((va_up_ne M (.inr (12, modF ad mb (upd mv 2 0))) (show mb + 17 ≠ mb by omega)).trans m_mb_17) ((va_up_ne M (.inr (12, modF ad mb (upd mv 2 0))) (show mb + 18 ≠ mb by omega)).trans m_mb_18) ((va_up_ne M (.inr (12, modF ad mb (upd mv 2 0))) (show mb + 19 ≠ mb by omega)).trans m_mb_19) ((va_up_ne M (.inr (12, modF ad mb (upd mv 2 0))) (show mb + 20 ≠ mb by omega)).trans m_mb_20) ((va_up_ne M (.inr (12, modF ad mb (upd mv 2 0))) (show mb + 21 ≠ mb by omega)).trans m_mb_21) ((va_up_ne M (.inr (12, modF ad mb (upd mv 2 0))) (show mb + 24 ≠ mb by omega)).trans m_mb_24) ((va_up_ne M (.inr (12, modF ad mb (upd mv 2 0))) (show mb + 25 ≠ mb by omega)).trans m_mb_25) k0 hnp k1 hnc k2 hnt k3 hnq k6 hns hMK hMR) X hK hP hS hl.1 rfl gX13_bill_X13_billNow yd_X13_billNow ⟨Nat.le_of_ble_eq_true rfl, Nat.le_of_ble_eq_true rfl⟩ h_mb (va_up_self M mb (.inr (12, modF ad mb (upd mv 2 0)))) (ci := 12) rfl rfl (Nat.le_of_ble_eq_true rfl) ⟨Nat.zero_le _, Nat.zero_le _⟩ dX13_bill_6 (fun r5 M4 H locs hp3 hP hS => ?_)
  obtain ⟨v0___6, v1___7, rfl, g8, g9, fr10⟩ := hp3
  exact q_wzret X hr hlocks hP hS (rfl) ⟨_, _, (by rfl), ((fr10 mb (by omega) (by omega)).trans (va_up_self M mb (.inr (12, modF ad mb (upd mv 2 0))))), g8, g9, (fun q n0 n1 n2 => ((fr10 q n1 n2).trans (va_up_ne _ _ n0)))⟩ dX13_bill_9
