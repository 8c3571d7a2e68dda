/-! PoundsOver$Tape -/
def tapeF (ad : Nat → Nat) (ta : Nat) (ln en nx pl kd nu : Int32) (wo : Nat) : List Value := [.ref (ad (ta + 1)), .int ln, .int en, .int nx, .int pl, .int kd, .int nu, .ref (ad (1000 + wo))]
set_option maxRecDepth 20000 in
theorem fX9_byteAt_28 : FL wsX9_byteAt RX9 28 9 2 := ⟨RX9, TX9, 8, rfl, by decide +kernel, by decide, by decide +kernel⟩
set_option maxRecDepth 20000 in
theorem fX9_byteAt_9 : FL wsX9_byteAt RX9 9 9 0 := ⟨RX9, TX9, 8, rfl, by decide +kernel, by decide, by decide +kernel⟩
def s_X9_byteAt (en : Int32) (bf : Nat → Int32) (x : Int32) : Int32 := if x < 0 then (-1) else if en ≤ x then (-1) else if 700 ≤ x then (-1) else ((bf x.toNatClampNeg) &&& 255)
set_option maxHeartbeats 4000000 in
set_option maxRecDepth 100000 in
theorem c_X9_byteAt (l : Launch) (D : va_G) (cB cI cJ : ClassId) (ad : Nat → Nat) (n : Nat) (M : Nat → va_E) (ta wo : Nat) (ln en nx pl kd nu : Int32) (bf : Nat → Int32) (x : Int32) (h_ta : ta < n) (h_ta_1 : ta + 1 < n) (m_ta : M ta = .inr (9, tapeF ad ta ln en nx pl kd nu wo)) (m_ta_1 : M (ta + 1) = .inl (cB, 700, .inl bf))  : cR l D cB cI cJ ad n M yX9_byteAt wsX9_byteAt 0 0 [.ref (ad ta), .int x] (s_X9_byteAt en bf x) := by
  refine q_body (cc := cX9_byteAt) (maxL := 2) (ret := (some .int)) (by decide) rfl (Nat.le_of_ble_eq_true rfl) ?_
  intro p e s m args below meth c ls X hr hlocks hK hP hl
  obtain ⟨hx, hb, hml, hown, hts⟩ := id X
  have hS : va_S (ipA ad n) s.heap s.heap [] := va_S.rf
  have hl : lv_has ls 2 [(0, .ref (ad ta)), (1, .int x)] := hl
  refine lv_iload_n hx hb dX9_byteAt_0 rfl (lv_at hl 1 rfl) ?_
  refine lv_if_lt (tgt := 34) hx hb dX9_byteAt_1 (by decide) (fun c_1 => ?_) (fun c_1 => ?_)
  · skip
    refine lv_iconst (v := (-1)) hx hb dX9_byteAt_34 (by decide) ?_
    exact q_iret hb hx hr hlocks (by rw [s_X9_byteAt, if_pos c_1]) dX9_byteAt_35
  · skip
    refine lv_iload_n hx hb dX9_byteAt_4 rfl (lv_at hl 1 rfl) ?_
    refine lv_aload_n hx hb dX9_byteAt_5 rfl (lv_at hl 0 rfl) ?_
    refine q_get (v := .int en) (fs := tapeF ad ta ln en nx pl kd nu wo) X hK hP fX9_byteAt_28 h_ta m_ta rfl dX9_byteAt_6 ?_
    refine lv_icmp_ge (tgt := 34) hx hb dX9_byteAt_9 (by decide) (fun c_9 => ?_) (fun c_9 => ?_)
    · skip
      refine lv_iconst (v := (-1)) hx hb dX9_byteAt_34 (by decide) ?_
      exact q_iret hb hx hr hlocks (by rw [s_X9_byteAt, if_neg c_1, if_pos c_9]) dX9_byteAt_35
    · skip
      refine lv_iload_n hx hb dX9_byteAt_12 rfl (lv_at hl 1 rfl) ?_
      refine lv_aload_n hx hb dX9_byteAt_13 rfl (lv_at hl 0 rfl) ?_
      refine q_get (v := .ref (ad (ta + 1))) (fs := tapeF ad ta ln en nx pl kd nu wo) X hK hP fX9_byteAt_9 h_ta m_ta rfl dX9_byteAt_14 ?_
      refine q_alenB (f := bf) (k := 700) (v := 700) X hK hP h_ta_1 m_ta_1 (by decide) dX9_byteAt_17 ?_
      refine lv_icmp_ge (tgt := 34) hx hb dX9_byteAt_18 (by decide) (fun c_18 => ?_) (fun c_18 => ?_)
      · skip
        refine lv_iconst (v := (-1)) hx hb dX9_byteAt_34 (by decide) ?_
        exact q_iret hb hx hr hlocks (by rw [s_X9_byteAt, if_neg c_1, if_neg c_9, if_pos c_18]) dX9_byteAt_35
      · skip
        refine lv_aload_n hx hb dX9_byteAt_21 rfl (lv_at hl 0 rfl) ?_
        refine q_get (v := .ref (ad (ta + 1))) (fs := tapeF ad ta ln en nx pl kd nu wo) X hK hP fX9_byteAt_9 h_ta m_ta rfl dX9_byteAt_22 ?_
        refine lv_iload_n hx hb dX9_byteAt_25 rfl (lv_at hl 1 rfl) ?_
        refine q_bald (f := bf) (k := 700) X hK hP h_ta_1 m_ta_1 (vp_in_d (k := 700) (by decide) c_1 c_18) dX9_byteAt_26 ?_
        refine lv_sipush (v := 255) hx hb dX9_byteAt_27 (by decide) ?_
        refine lv_iand hx hb dX9_byteAt_30 ?_
        refine lv_goto (tgt := 35) hx hb dX9_byteAt_31 (by decide) ?_
        exact q_iret hb hx hr hlocks (by rw [s_X9_byteAt, if_neg c_1, if_neg c_9, if_neg c_18]) dX9_byteAt_35
def s_X9_isLetter (x : Int32) : Int32 := if x < 97 then 0 else if 122 < x then 0 else 1
set_option maxHeartbeats 4000000 in
set_option maxRecDepth 100000 in
theorem c_X9_isLetter (l : Launch) (D : va_G) (cB cI cJ : ClassId) (ad : Nat → Nat) (n : Nat) (M : Nat → va_E) (x : Int32)    : cR l D cB cI cJ ad n M yX9_isLetter wsX9_isLetter 0 0 [.int x] (s_X9_isLetter x) := by
  refine q_body (cc := cX9_isLetter) (maxL := 1) (ret := (some .boolean)) (by decide) rfl (Nat.le_of_ble_eq_true rfl) ?_
  intro p e s m args below meth c ls X hr hlocks hK hP hl
  obtain ⟨hx, hb, hml, hown, hts⟩ := id X
  have hS : va_S (ipA ad n) s.heap s.heap [] := va_S.rf
  have hl : lv_has ls 1 [(0, .int x)] := hl
  refine lv_iload_n hx hb dX9_isLetter_0 rfl (lv_at hl 0 rfl) ?_
  refine lv_bipush (v := 97) hx hb dX9_isLetter_1 (by decide) ?_
  refine lv_icmp_lt (tgt := 16) hx hb dX9_isLetter_3 (by decide) (fun c_3 => ?_) (fun c_3 => ?_)
  · skip
    refine lv_iconst (v := 0) hx hb dX9_isLetter_16 (by decide) ?_
    exact q_zret X hr hlocks (rfl) (by rw [s_X9_isLetter, if_pos c_3]) dX9_isLetter_17
  · skip
    refine lv_iload_n hx hb dX9_isLetter_6 rfl (lv_at hl 0 rfl) ?_
    refine lv_bipush (v := 122) hx hb dX9_isLetter_7 (by decide) ?_
    refine lv_icmp_gt (tgt := 16) hx hb dX9_isLetter_9 (by decide) (fun c_9 => ?_) (fun c_9 => ?_)
    · skip
      refine lv_iconst (v := 0) hx hb dX9_isLetter_16 (by decide) ?_
      exact q_zret X hr hlocks (rfl) (by rw [s_X9_isLetter, if_neg c_3, if_pos c_9]) dX9_isLetter_17
    · skip
      refine lv_iconst (v := 1) hx hb dX9_isLetter_12 (by decide) ?_
      refine lv_goto (tgt := 17) hx hb dX9_isLetter_13 (by decide) ?_
      exact q_zret X hr hlocks (rfl) (by rw [s_X9_isLetter, if_neg c_3, if_neg c_9]) dX9_isLetter_17
def s_X9_isDigit (x : Int32) : Int32 := if x < 48 then 0 else if 57 < x then 0 else 1
set_option maxHeartbeats 4000000 in
set_option maxRecDepth 100000 in
theorem c_X9_isDigit (l : Launch) (D : va_G) (cB cI cJ : ClassId) (ad : Nat → Nat) (n : Nat) (M : Nat → va_E) (x : Int32)    : cR l D cB cI cJ ad n M yX9_isDigit wsX9_isDigit 0 0 [.int x] (s_X9_isDigit x) := by
  refine q_body (cc := cX9_isDigit) (maxL := 1) (ret := (some .boolean)) (by decide) rfl (Nat.le_of_ble_eq_true rfl) ?_
  intro p e s m args below meth c ls X hr hlocks hK hP hl
  obtain ⟨hx, hb, hml, hown, hts⟩ := id X
  have hS : va_S (ipA ad n) s.heap s.heap [] := va_S.rf
  have hl : lv_has ls 1 [(0, .int x)] := hl
  refine lv_iload_n hx hb dX9_isDigit_0 rfl (lv_at hl 0 rfl) ?_
  refine lv_bipush (v := 48) hx hb dX9_isDigit_1 (by decide) ?_
  refine lv_icmp_lt (tgt := 16) hx hb dX9_isDigit_3 (by decide) (fun c_3 => ?_) (fun c_3 => ?_)
  · skip
    refine lv_iconst (v := 0) hx hb dX9_isDigit_16 (by decide) ?_
    exact q_zret X hr hlocks (rfl) (by rw [s_X9_isDigit, if_pos c_3]) dX9_isDigit_17
  · skip
    refine lv_iload_n hx hb dX9_isDigit_6 rfl (lv_at hl 0 rfl) ?_
    refine lv_bipush (v := 57) hx hb dX9_isDigit_7 (by decide) ?_
    refine lv_icmp_gt (tgt := 16) hx hb dX9_isDigit_9 (by decide) (fun c_9 => ?_) (fun c_9 => ?_)
    · skip
      refine lv_iconst (v := 0) hx hb dX9_isDigit_16 (by decide) ?_
      exact q_zret X hr hlocks (rfl) (by rw [s_X9_isDigit, if_neg c_3, if_pos c_9]) dX9_isDigit_17
    · skip
      refine lv_iconst (v := 1) hx hb dX9_isDigit_12 (by decide) ?_
      refine lv_goto (tgt := 17) hx hb dX9_isDigit_13 (by decide) ?_
      exact q_zret X hr hlocks (rfl) (by rw [s_X9_isDigit, if_neg c_3, if_neg c_9]) dX9_isDigit_17
def s_X9_isSign (x : Int32) : Int32 := if x = 59 then 1 else if x = 40 then 1 else if x = 41 then 1 else if x = 43 then 1 else if x = 45 then 1 else if x = 42 then 1 else if x = 47 then 1 else if x = 60 then 1 else if x = 61 then 1 else 0
set_option maxHeartbeats 4000000 in
set_option maxRecDepth 100000 in
theorem c_X9_isSign (l : Launch) (D : va_G) (cB cI cJ : ClassId) (ad : Nat → Nat) (n : Nat) (M : Nat → va_E) (x : Int32)    : cR l D cB cI cJ ad n M yX9_isSign wsX9_isSign 0 0 [.int x] (s_X9_isSign x) := by
  refine q_body (cc := cX9_isSign) (maxL := 1) (ret := (some .boolean)) (by decide) rfl (Nat.le_of_ble_eq_true rfl) ?_
  intro p e s m args below meth c ls X hr hlocks hK hP hl
  obtain ⟨hx, hb, hml, hown, hts⟩ := id X
  have hS : va_S (ipA ad n) s.heap s.heap [] := va_S.rf
  have hl : lv_has ls 1 [(0, .int x)] := hl
  refine lv_iload_n hx hb dX9_isSign_0 rfl (lv_at hl 0 rfl) ?_
  refine lv_bipush (v := 59) hx hb dX9_isSign_1 (by decide) ?_
  refine lv_icmp_eq (tgt := 54) hx hb dX9_isSign_3 (by decide) (fun c_3 => ?_) (fun c_3 => ?_)
  · skip
    refine lv_iconst (v := 1) hx hb dX9_isSign_54 (by decide) ?_
    refine lv_goto (tgt := 59) hx hb dX9_isSign_55 (by decide) ?_
    exact q_zret X hr hlocks (rfl) (by rw [s_X9_isSign, if_pos c_3]) dX9_isSign_59
  · skip
    refine lv_iload_n hx hb dX9_isSign_6 rfl (lv_at hl 0 rfl) ?_
    refine lv_bipush (v := 40) hx hb dX9_isSign_7 (by decide) ?_
    refine lv_icmp_eq (tgt := 54) hx hb dX9_isSign_9 (by decide) (fun c_9 => ?_) (fun c_9 => ?_)
    · skip
      refine lv_iconst (v := 1) hx hb dX9_isSign_54 (by decide) ?_
      refine lv_goto (tgt := 59) hx hb dX9_isSign_55 (by decide) ?_
      exact q_zret X hr hlocks (rfl) (by rw [s_X9_isSign, if_neg c_3, if_pos c_9]) dX9_isSign_59
    · skip
      refine lv_iload_n hx hb dX9_isSign_12 rfl (lv_at hl 0 rfl) ?_
      refine lv_bipush (v := 41) hx hb dX9_isSign_13 (by decide) ?_
      refine lv_icmp_eq (tgt := 54) hx hb dX9_isSign_15 (by decide) (fun c_15 => ?_) (fun c_15 => ?_)
      · skip
        refine lv_iconst (v := 1) hx hb dX9_isSign_54 (by decide) ?_
        refine lv_goto (tgt := 59) hx hb dX9_isSign_55 (by decide) ?_
        exact q_zret X hr hlocks (rfl) (by rw [s_X9_isSign, if_neg c_3, if_neg c_9, if_pos c_15]) dX9_isSign_59
      · skip
        refine lv_iload_n hx hb dX9_isSign_18 rfl (lv_at hl 0 rfl) ?_
        refine lv_bipush (v := 43) hx hb dX9_isSign_19 (by decide) ?_
        refine lv_icmp_eq (tgt := 54) hx hb dX9_isSign_21 (by decide) (fun c_21 => ?_) (fun c_21 => ?_)
        · skip
          refine lv_iconst (v := 1) hx hb dX9_isSign_54 (by decide) ?_
          refine lv_goto (tgt := 59) hx hb dX9_isSign_55 (by decide) ?_
          exact q_zret X hr hlocks (rfl) (by rw [s_X9_isSign, if_neg c_3, if_neg c_9, if_neg c_15, if_pos c_21]) dX9_isSign_59
        · skip
          refine lv_iload_n hx hb dX9_isSign_24 rfl (lv_at hl 0 rfl) ?_
          refine lv_bipush (v := 45) hx hb dX9_isSign_25 (by decide) ?_
          refine lv_icmp_eq (tgt := 54) hx hb dX9_isSign_27 (by decide) (fun c_27 => ?_) (fun c_27 => ?_)
          · skip
            refine lv_iconst (v := 1) hx hb dX9_isSign_54 (by decide) ?_
            refine lv_goto (tgt := 59) hx hb dX9_isSign_55 (by decide) ?_
            exact q_zret X hr hlocks (rfl) (by rw [s_X9_isSign, if_neg c_3, if_neg c_9, if_neg c_15, if_neg c_21, if_pos c_27]) dX9_isSign_59
          · skip
            refine lv_iload_n hx hb dX9_isSign_30 rfl (lv_at hl 0 rfl) ?_
            refine lv_bipush (v := 42) hx hb dX9_isSign_31 (by decide) ?_
            refine lv_icmp_eq (tgt := 54) hx hb dX9_isSign_33 (by decide) (fun c_33 => ?_) (fun c_33 => ?_)
            · skip
              refine lv_iconst (v := 1) hx hb dX9_isSign_54 (by decide) ?_
              refine lv_goto (tgt := 59) hx hb dX9_isSign_55 (by decide) ?_
              exact q_zret X hr hlocks (rfl) (by rw [s_X9_isSign, if_neg c_3, if_neg c_9, if_neg c_15, if_neg c_21, if_neg c_27, if_pos c_33]) dX9_isSign_59
            · skip
              refine lv_iload_n hx hb dX9_isSign_36 rfl (lv_at hl 0 rfl) ?_
              refine lv_bipush (v := 47) hx hb dX9_isSign_37 (by decide) ?_
              refine lv_icmp_eq (tgt := 54) hx hb dX9_isSign_39 (by decide) (fun c_39 => ?_) (fun c_39 => ?_)
              · skip
                refine lv_iconst (v := 1) hx hb dX9_isSign_54 (by decide) ?_
                refine lv_goto (tgt := 59) hx hb dX9_isSign_55 (by decide) ?_
                exact q_zret X hr hlocks (rfl) (by rw [s_X9_isSign, if_neg c_3, if_neg c_9, if_neg c_15, if_neg c_21, if_neg c_27, if_neg c_33, if_pos c_39]) dX9_isSign_59
              · skip
                refine lv_iload_n hx hb dX9_isSign_42 rfl (lv_at hl 0 rfl) ?_
                refine lv_bipush (v := 60) hx hb dX9_isSign_43 (by decide) ?_
                refine lv_icmp_eq (tgt := 54) hx hb dX9_isSign_45 (by decide) (fun c_45 => ?_) (fun c_45 => ?_)
                · skip
                  refine lv_iconst (v := 1) hx hb dX9_isSign_54 (by decide) ?_
                  refine lv_goto (tgt := 59) hx hb dX9_isSign_55 (by decide) ?_
                  exact q_zret X hr hlocks (rfl) (by rw [s_X9_isSign, if_neg c_3, if_neg c_9, if_neg c_15, if_neg c_21, if_neg c_27, if_neg c_33, if_neg c_39, if_pos c_45]) dX9_isSign_59
                · skip
                  refine lv_iload_n hx hb dX9_isSign_48 rfl (lv_at hl 0 rfl) ?_
                  refine lv_bipush (v := 61) hx hb dX9_isSign_49 (by decide) ?_
                  refine lv_icmp_ne (tgt := 58) hx hb dX9_isSign_51 (by decide) (fun c_51 => ?_) (fun c_51 => ?_)
                  · skip
                    refine lv_iconst (v := 0) hx hb dX9_isSign_58 (by decide) ?_
                    exact q_zret X hr hlocks (rfl) (by rw [s_X9_isSign, if_neg c_3, if_neg c_9, if_neg c_15, if_neg c_21, if_neg c_27, if_neg c_33, if_neg c_39, if_neg c_45, if_neg c_51]) dX9_isSign_59
                  · skip
                    refine lv_iconst (v := 1) hx hb dX9_isSign_54 (by decide) ?_
                    refine lv_goto (tgt := 59) hx hb dX9_isSign_55 (by decide) ?_
                    exact q_zret X hr hlocks (rfl) (by rw [s_X9_isSign, if_neg c_3, if_neg c_9, if_neg c_15, if_neg c_21, if_neg c_27, if_neg c_33, if_neg c_39, if_neg c_45, if_pos c_51]) dX9_isSign_59
def bA (en : Int32) (bf : Nat → Int32) (k : Nat) : Int32 := s_X9_byteAt en bf (nI k)
def numS (en : Int32) (bf : Nat → Int32) (pl : Nat) : Nat → Int32
  | 0 => 0
  | t + 1 => numS en bf pl t * 10 + s_X9_byteAt en bf (nI (pl + t)) - 48
def fnS (en : Int32) (bf : Nat → Int32) (pl nx : Nat) : Int32 := if nI nx - nI pl ≤ 4 then numS en bf pl (nx - pl) else 10000
def wmS (en : Int32) (bf : Nat → Int32) (pl lt : Int32) (i : Nat) : Nat → Nat → Nat
  | 0, k => k
  | r + 1, k => if lt ≤ nI k then k else if nI (wLn.getD i 0) ≤ nI k then k else if (wBy.getD i []).getD k 0 = s_X9_byteAt en bf (pl + nI k) then wmS en bf pl lt i r (k + 1) else k
def fwS (en : Int32) (bf : Nat → Int32) (pl lt : Int32) : Nat → Nat → Nat
  | 0, _ => 0
  | r + 1, t => if nI (wmS en bf pl lt t 7 0) = lt then if nI (wmS en bf pl lt t 7 0) = nI (wLn.getD t 0) then t else fwS en bf pl lt r (t + 1) else fwS en bf pl lt r (t + 1)
theorem fwS_lt (en : Int32) (bf : Nat → Int32) (pl lt : Int32) : ∀ r t : Nat, r + t ≤ 20 → fwS en bf pl lt r t < 20
  | 0, _, _ => by rw [fwS]; decide
  | r + 1, t, h => by
    rw [fwS]
    by_cases h1 : nI (wmS en bf pl lt t 7 0) = lt
    · rw [if_pos h1]
      by_cases h2 : nI (wmS en bf pl lt t 7 0) = nI (wLn.getD t 0)
      · rw [if_pos h2]; omega
      · rw [if_neg h2]; exact fwS_lt en bf pl lt r (t + 1) (by omega)
    · rw [if_neg h1]; exact fwS_lt en bf pl lt r (t + 1) (by omega)
def skS (en : Nat) (bf : Nat → Int32) : Nat → Nat → Nat
  | 0, x => x
  | r + 1, x => if nI en ≤ nI x then x else if s_X9_byteAt (nI en) bf (nI x) = 32 then skS en bf r (x + 1) else if s_X9_byteAt (nI en) bf (nI x) = 10 then skS en bf r (x + 1) else x
def rgS (en : Nat) (bf : Nat → Int32) (le di : Int32) : Nat → Nat → Nat
  | 0, x => x
  | r + 1, x => if nI en ≤ nI x then x else if le = 0 then (if di = 0 then x else if s_X9_isDigit (s_X9_byteAt (nI en) bf (nI x)) = 0 then x else rgS en bf le di r (x + 1)) else if s_X9_isLetter (s_X9_byteAt (nI en) bf (nI x)) = 0 then (if di = 0 then x else if s_X9_isDigit (s_X9_byteAt (nI en) bf (nI x)) = 0 then x else rgS en bf le di r (x + 1)) else rgS en bf le di r (x + 1)
def avN (en : Nat) (bf : Nat → Int32) (x : Nat) : Nat := if s_X9_byteAt (nI en) bf (nI x) = -1 then x else rgS en bf (s_X9_isLetter (s_X9_byteAt (nI en) bf (nI x))) (s_X9_isDigit (s_X9_byteAt (nI en) bf (nI x))) 701 (x + 1)
def avK (en : Nat) (bf : Nat → Int32) (x : Nat) : Int32 := if s_X9_byteAt (nI en) bf (nI x) = -1 then 0 else if s_X9_isLetter (s_X9_byteAt (nI en) bf (nI x)) = 0 then (if s_X9_isDigit (s_X9_byteAt (nI en) bf (nI x)) = 0 then (if s_X9_isSign (s_X9_byteAt (nI en) bf (nI x)) = 0 then 3 else s_X9_byteAt (nI en) bf (nI x)) else 2) else 1
def avU (en : Nat) (bf : Nat → Int32) (x : Nat) (nu : Int32) : Int32 := if s_X9_byteAt (nI en) bf (nI x) = -1 then nu else if s_X9_isLetter (s_X9_byteAt (nI en) bf (nI x)) = 0 then (if s_X9_isDigit (s_X9_byteAt (nI en) bf (nI x)) = 0 then nu else fnS (nI en) bf x (avN en bf x)) else nu
def avW (en : Nat) (bf : Nat → Int32) (x : Nat) : Nat := if s_X9_byteAt (nI en) bf (nI x) = -1 then 0 else if s_X9_isLetter (s_X9_byteAt (nI en) bf (nI x)) = 0 then 0 else fwS (nI en) bf (nI x) (nI (avN en bf x) - nI x) 20 0
theorem avW_lt (en : Nat) (bf : Nat → Int32) (x : Nat) : avW en bf x < 20 := by
  unfold avW
  split
  · decide
  · split
    · decide
    · exact fwS_lt _ _ _ _ _ _ (by omega)
theorem bA_lt {en x : Nat} {bf : Nat → Int32} (he : en ≤ 700) (hx : x ≤ 700) (h : ¬ s_X9_byteAt (nI en) bf (nI x) = -1) : x < en := by
  refine Nat.lt_of_not_le (fun q => h ?_)
  rw [s_X9_byteAt, if_neg (nI_pos (by omega)), if_pos (nI_le q (by omega))]
set_option maxRecDepth 20000 in
theorem fX9_findNumber_31 : FL wsX9_findNumber RX9 31 9 3 := ⟨RX9, TX9, 8, rfl, by decide +kernel, by decide, by decide +kernel⟩
set_option maxRecDepth 20000 in
theorem fX9_findNumber_41 : FL wsX9_findNumber RX9 41 9 4 := ⟨RX9, TX9, 8, rfl, by decide +kernel, by decide, by decide +kernel⟩
theorem yd_X9_byteAt : YD yX9_byteAt 1 := ⟨by decide +kernel, by decide +kernel, by decide +kernel⟩
set_option maxHeartbeats 4000000 in
set_option maxRecDepth 100000 in
theorem c_X9_findNumber (l : Launch) (D : va_G) (cB cI cJ : ClassId) (ad : Nat → Nat) (n : Nat) (M : Nat → va_E) (ta en nx pl wo : Nat) (ln kd nu : Int32) (bf : Nat → Int32) (h_ta : ta < n) (h_ta_1 : ta + 1 < n) (m_ta : M ta = .inr (9, tapeF ad ta ln (nI en) (nI nx) (nI pl) kd nu wo)) (m_ta_1 : M (ta + 1) = .inl (cB, 700, .inl bf)) (hpn : pl ≤ nx) (hnx : nx ≤ 700) : cR l D cB cI cJ ad n M yX9_findNumber wsX9_findNumber 1 21 [.ref (ad ta)] (fnS (nI en) bf pl nx) := by
  refine q_body (cc := cX9_findNumber) (maxL := 3) (ret := (some .int)) (by decide) rfl (Nat.le_of_ble_eq_true rfl) ?_
  intro p e s m args below meth c ls X hr hlocks hK hP hl
  obtain ⟨hx, hb, hml, hown, hts⟩ := id X
  have hS : va_S (ipA ad n) s.heap s.heap [] := va_S.rf
  have hl : lv_has ls 3 [(0, .ref (ad ta))] := hl
  refine lv_aload_n hx hb dX9_findNumber_0 rfl (lv_at hl 0 rfl) ?_
  refine q_get (v := .int (nI nx)) (fs := tapeF ad ta ln (nI en) (nI nx) (nI pl) kd nu wo) X hK hP fX9_findNumber_31 h_ta m_ta rfl dX9_findNumber_1 ?_
  refine lv_aload_n hx hb dX9_findNumber_4 rfl (lv_at hl 0 rfl) ?_
  refine q_get (v := .int (nI pl)) (fs := tapeF ad ta ln (nI en) (nI nx) (nI pl) kd nu wo) X hK hP fX9_findNumber_41 h_ta m_ta rfl dX9_findNumber_5 ?_
  refine lv_isub hx hb dX9_findNumber_8 ?_
  refine lv_iconst (v := 4) hx hb dX9_findNumber_9 (by decide) ?_
  refine lv_icmp_le (tgt := 17) hx hb dX9_findNumber_10 (by decide) (fun c_10 => ?_) (fun c_10 => ?_)
  · skip
    refine lv_iconst (v := 0) hx hb dX9_findNumber_17 (by decide) ?_
    refine lv_istore_n (lv' := [(1, .int 0), (0, .ref (ad ta))]) hx hb dX9_findNumber_18 rfl hl (by decide) rfl (fun ls hl => ?_)
    refine lv_aload_n hx hb dX9_findNumber_19 rfl (lv_at hl 1 rfl) ?_
    refine q_get (v := .int (nI pl)) (fs := tapeF ad ta ln (nI en) (nI nx) (nI pl) kd nu wo) X hK hP fX9_findNumber_41 h_ta m_ta rfl dX9_findNumber_20 ?_
    refine lv_istore_n (lv' := [(2, .int (nI pl)), (1, .int 0), (0, .ref (ad ta))]) hx hb dX9_findNumber_23 rfl hl (by decide) rfl (fun ls hl => ?_)
    have loop_24 : ∀ (fuel : Nat) (t : Nat) (x1 : Int32) (x2 : Int32), nx - (pl + t) < fuel → (pl + t ≤ nx) → x1 = numS (nI en) bf pl t → x2 = nI (pl + t) → ∀ (ls : Array Slot), lv_has ls 3 [(0, .ref (ad ta)), (1, .int x1), (2, .int x2)] → W p l e (rmOf 1 21) s m args below meth c s.heap [] 0 0 (MQ below (vp_Si (fun r9 => r9 = fnS (nI en) bf pl nx)) args s 0 0 (fun _ => False)) (F0 m 24 ls []) := by
      intro fuel
      induction fuel with
      | zero =>
        intro t x1 x2 hz
        exact absurd hz (Nat.not_lt_zero _)
      | succ fuel ih_24 =>
        intro t x1 x2 hz_24 ht e1 e2 ls hl
        subst e1
        subst e2
        skip
        refine lv_iload_n hx hb dX9_findNumber_24 rfl (lv_at hl 2 rfl) ?_
        refine lv_aload_n hx hb dX9_findNumber_25 rfl (lv_at hl 0 rfl) ?_
        refine q_get (v := .int (nI nx)) (fs := tapeF ad ta ln (nI en) (nI nx) (nI pl) kd nu wo) X hK hP fX9_findNumber_31 h_ta m_ta rfl dX9_findNumber_26 ?_
        refine lv_icmp_ge (tgt := 52) hx hb dX9_findNumber_29 (by decide) (fun c_29 => ?_) (fun c_29 => ?_)
        · skip
          refine lv_iload_n hx hb dX9_findNumber_52 rfl (lv_at hl 1 rfl) ?_
          exact q_iret hb hx hr hlocks (by have h9 := eq_of_le c_29 (by omega) ht; rw [fnS, if_pos c_10, show nx - pl = t by omega]) dX9_findNumber_53
        · skip
          refine lv_iload_n hx hb dX9_findNumber_32 rfl (lv_at hl 1 rfl) ?_
          refine lv_bipush (v := 10) hx hb dX9_findNumber_33 (by decide) ?_
          refine lv_imul hx hb dX9_findNumber_35 ?_
          refine lv_aload_n hx hb dX9_findNumber_36 rfl (lv_at hl 0 rfl) ?_
          refine lv_iload_n hx hb dX9_findNumber_37 rfl (lv_at hl 2 rfl) ?_
          refine q_rdV (As := [.int (nI (pl + t))]) (rest := [.int ((numS (nI en) bf pl t) * 10)]) (c_X9_byteAt l D cB cI cJ ad n M ta wo ln (nI en) (nI nx) (nI pl) kd nu bf (nI (pl + t)) h_ta h_ta_1 m_ta m_ta_1 ) X hK hP hS hl.1 rfl gX9_findNumber_X9_byteAt yd_X9_byteAt ⟨Nat.le_of_ble_eq_true rfl, Nat.le_of_ble_eq_true rfl⟩ h_ta m_ta (ci := 9) rfl rfl (Nat.le_of_ble_eq_true rfl) ⟨Nat.zero_le _, Nat.zero_le _⟩ dX9_findNumber_38 ?_
          refine lv_iadd hx hb dX9_findNumber_41 ?_
          refine lv_bipush (v := 48) hx hb dX9_findNumber_42 (by decide) ?_
          refine lv_isub hx hb dX9_findNumber_44 ?_
          refine lv_istore_n (lv' := [(1, .int ((((numS (nI en) bf pl t) * 10) + (s_X9_byteAt (nI en) bf (nI (pl + t)))) - 48)), (0, .ref (ad ta)), (2, .int (nI (pl + t)))]) hx hb dX9_findNumber_45 rfl hl (by decide) rfl (fun ls hl => ?_)
          refine lv_iinc (v := ((nI (pl + t)) + 1)) (lv' := [(2, .int ((nI (pl + t)) + 1)), (1, .int ((((numS (nI en) bf pl t) * 10) + (s_X9_byteAt (nI en) bf (nI (pl + t)))) - 48)), (0, .ref (ad ta))]) hx hb dX9_findNumber_46 hl (k := 2) rfl rfl (by decide) rfl (fun ls hl => ?_)
          refine lv_goto (tgt := 24) hx hb dX9_findNumber_49 (by decide) ?_
          exact ih_24 (t + 1) ((((numS (nI en) bf pl t) * 10) + (s_X9_byteAt (nI en) bf (nI (pl + t)))) - 48) ((nI (pl + t)) + 1) (by have := lt_of_nlt c_29 (by omega) ht; omega) (by have := lt_of_nlt c_29 (by omega) ht; omega) (by rfl) (by exact nI_1 _) ls (lv_sub hl [2, 1, 0] rfl)
    exact loop_24 (nx + 1) 0 0 (nI pl) (by omega) (by omega) (by rfl) (by rfl) ls (lv_sub hl [2, 1, 0] rfl)
  · skip
    refine lv_sipush (v := 10000) hx hb dX9_findNumber_13 (by decide) ?_
    exact q_iret hb hx hr hlocks (by rw [fnS, if_neg c_10]) dX9_findNumber_16
set_option maxRecDepth 20000 in
theorem fX9_findWord_31 : FL wsX9_findWord RX9 31 9 3 := ⟨RX9, TX9, 8, rfl, by decide +kernel, by decide, by decide +kernel⟩
set_option maxRecDepth 20000 in
theorem fX9_findWord_41 : FL wsX9_findWord RX9 41 9 4 := ⟨RX9, TX9, 8, rfl, by decide +kernel, by decide, by decide +kernel⟩
theorem yd_J0_length_8abf5 : YD yJ0_length_8abf5 0 := ⟨by decide +kernel, by decide +kernel, by decide +kernel⟩
theorem yd_J0_charAt_5068e : YD yJ0_charAt_5068e 1 := ⟨by decide +kernel, by decide +kernel, by decide +kernel⟩
set_option maxHeartbeats 4000000 in
set_option maxRecDepth 100000 in
theorem c_X9_findWord (l : Launch) (D : va_G) (cB cI cJ : ClassId) (ad : Nat → Nat) (n : Nat) (M : Nat → va_E) (ta en nx pl wo : Nat) (ln kd nu : Int32) (bf : Nat → Int32) (h_ta : ta < n) (h_ta_1 : ta + 1 < n) (m_ta : M ta = .inr (9, tapeF ad ta ln (nI en) (nI nx) (nI pl) kd nu wo)) (m_ta_1 : M (ta + 1) = .inl (cB, 700, .inl bf)) (hpn : pl ≤ nx) (hnx : nx ≤ 700) : cRe l D cB cI cJ ad n M yX9_findWord wsX9_findWord 4 85 [.ref (ad ta)] (1000 + fwS (nI en) bf (nI pl) (nI nx - nI pl) 20 0) := by
  refine q_body (cc := cX9_findWord) (maxL := 5) (ret := (some (.object "PoundsOver$Word"))) (by decide) rfl (Nat.le_of_ble_eq_true rfl) ?_
  intro p e s m args below meth c ls X hr hlocks hK hP hl
  obtain ⟨hx, hb, hml, hown, hts⟩ := id X
  have hS : va_S (ipA ad n) s.heap s.heap [] := va_S.rf
  have hl : lv_has ls 5 [(0, .ref (ad ta))] := hl
  refine lv_aload_n hx hb dX9_findWord_0 rfl (lv_at hl 0 rfl) ?_
  refine q_get (v := .int (nI nx)) (fs := tapeF ad ta ln (nI en) (nI nx) (nI pl) kd nu wo) X hK hP fX9_findWord_31 h_ta m_ta rfl dX9_findWord_1 ?_
  refine lv_aload_n hx hb dX9_findWord_4 rfl (lv_at hl 0 rfl) ?_
  refine q_get (v := .int (nI pl)) (fs := tapeF ad ta ln (nI en) (nI nx) (nI pl) kd nu wo) X hK hP fX9_findWord_41 h_ta m_ta rfl dX9_findWord_5 ?_
  refine lv_isub hx hb dX9_findWord_8 ?_
  refine lv_istore_n (lv' := [(1, .int ((nI nx) - (nI pl))), (0, .ref (ad ta))]) hx hb dX9_findWord_9 rfl hl (by decide) rfl (fun ls hl => ?_)
  refine lv_iconst (v := 0) hx hb dX9_findWord_10 (by decide) ?_
  refine lv_istore_n (lv' := [(2, .int 0), (1, .int ((nI nx) - (nI pl))), (0, .ref (ad ta))]) hx hb dX9_findWord_11 rfl hl (by decide) rfl (fun ls hl => ?_)
  have loop_12 : ∀ (fuel : Nat) (t : Nat) (x2 : Int32), 20 - t < fuel → (t ≤ 20) → (fwS (nI en) bf (nI pl) (nI nx - nI pl) (20 - t) t = fwS (nI en) bf (nI pl) (nI nx - nI pl) 20 0) → x2 = nI t → ∀ (ls : Array Slot), lv_has ls 5 [(0, .ref (ad ta)), (1, .int (nI nx - nI pl)), (2, .int x2)] → W p l e (rmOf 4 85) s m args below meth c s.heap [] 0 0 (MQ below (va_Se ad (fun x9 => x9 = some (1000 + fwS (nI en) bf (nI pl) (nI nx - nI pl) 20 0))) args s 0 0 (fun _ => False)) (F0 m 12 ls []) := by
    intro fuel
    induction fuel with
    | zero =>
      intro t x2 hz
      exact absurd hz (Nat.not_lt_zero _)
    | succ fuel ih_12 =>
      intro t x2 hz_12 ht hf e2 ls hl
      subst e2
      skip
      refine lv_iload_n hx hb dX9_findWord_12 rfl (lv_at hl 2 rfl) ?_
      refine q_gsW X hK hS dX9_findWord_13 ?_
      refine q_alenW X hK hS dX9_findWord_16 ?_
      refine lv_icmp_ge (tgt := 100) hx hb dX9_findWord_17 (by decide) (fun c_17 => ?_) (fun c_17 => ?_)
      · skip
        have h9 : t = 20 := eq_of_le (k := 20) c_17 (by omega) ht
        refine q_gsE (i := 0) (nm := "OTHER") X hK hS (by decide) rfl (by decide +kernel) dX9_findWord_100 ?_
        exact q_aret X hr hlocks (by rw [← hf, h9]; rfl) dX9_findWord_103
      · skip
        have h9 : t < 20 := lt_of_nlt (k := 20) c_17 (by omega) ht
        refine q_gsW X hK hS dX9_findWord_20 ?_
        refine lv_iload_n hx hb dX9_findWord_23 rfl (lv_at hl 2 rfl) ?_
        refine q_aaldW (i := t) X hK hS (by first | omega | assumption | exact fwS_lt ..) dX9_findWord_24 ?_
        refine q_getX (i := t) X hK hS (by first | omega | assumption | exact fwS_lt ..) (by decide +kernel) dX9_findWord_25 ?_
        refine lv_astore_n (lv' := [(3, .ref (ad (2000 + t))), (0, .ref (ad ta)), (1, .int (nI nx - nI pl)), (2, .int (nI t))]) hx hb dX9_findWord_28 rfl hl (by decide) rfl (fun ls hl => ?_)
        refine lv_iconst (v := 0) hx hb dX9_findWord_29 (by decide) ?_
        refine lv_istore (lv' := [(4, .int 0), (3, .ref (ad (2000 + t))), (0, .ref (ad ta)), (1, .int (nI nx - nI pl)), (2, .int (nI t))]) hx hb dX9_findWord_30 hl (by decide) rfl (fun ls hl => ?_)
        have loop_32 : ∀ (fuel : Nat) (k r9 : Nat) (x4 : Int32), 7 - k < fuel → (k ≤ wLn.getD t 0) → (wLn.getD t 0 < k + r9) → (wmS (nI en) bf (nI pl) (nI nx - nI pl) t r9 k = wmS (nI en) bf (nI pl) (nI nx - nI pl) t 7 0) → x4 = nI k → ∀ (ls : Array Slot), lv_has ls 5 [(0, .ref (ad ta)), (1, .int (nI nx - nI pl)), (2, .int (nI t)), (3, .ref (ad (2000 + t))), (4, .int x4)] → W p l e (rmOf 4 85) s m args below meth c s.heap [] 0 0 (MQ below (va_Se ad (fun x9 => x9 = some (1000 + fwS (nI en) bf (nI pl) (nI nx - nI pl) 20 0))) args s 0 0 (fun _ => False)) (F0 m 32 ls []) := by
          intro fuel
          induction fuel with
          | zero =>
            intro k r9 x4 hz
            exact absurd hz (Nat.not_lt_zero _)
          | succ fuel ih_32 =>
            intro k r9 x4 hz_32 hk hr9 hs e4 ls hl
            subst e4
            have hw6 := w_ln t (by omega)
            skip
            refine lv_iload hx hb dX9_findWord_32 (lv_at hl 4 rfl) ?_
            refine lv_iload_n hx hb dX9_findWord_34 rfl (lv_at hl 1 rfl) ?_
            refine lv_icmp_ge (tgt := 73) hx hb dX9_findWord_35 (by decide) (fun c_35 => ?_) (fun c_35 => ?_)
            · skip
              have hm : wmS (nI en) bf (nI pl) (nI nx - nI pl) t 7 0 = k := by rw [← hs]; obtain ⟨r8, hr8⟩ : ∃ r8, r9 = r8 + 1 := ⟨r9 - 1, by omega⟩; rw [hr8, wmS, if_pos c_35]
              refine lv_iload hx hb dX9_findWord_73 (lv_at hl 4 rfl) ?_
              refine lv_iload_n hx hb dX9_findWord_75 rfl (lv_at hl 1 rfl) ?_
              refine lv_icmp_ne (tgt := 94) hx hb dX9_findWord_76 (by decide) (fun c_76 => ?_) (fun c_76 => ?_)
              · skip
                refine lv_iinc (v := ((nI t) + 1)) (lv' := [(2, .int ((nI t) + 1)), (0, .ref (ad ta)), (1, .int (nI nx - nI pl)), (3, .ref (ad (2000 + t))), (4, .int (nI k))]) hx hb dX9_findWord_94 hl (k := 2) rfl rfl (by decide) rfl (fun ls hl => ?_)
                refine lv_goto (tgt := 12) hx hb dX9_findWord_97 (by decide) ?_
                exact ih_12 (t + 1) ((nI t) + 1) (by omega) (by omega) (by rw [← hf, show 20 - t = (20 - (t + 1)) + 1 by omega, fwS, hm]; first | (rw [if_neg c_76]; done) | (rw [if_pos c_76, if_neg c_85]; done)) (by first | rfl | exact nI_0.symm | exact nI_1 _) ls (lv_sub hl [1, 2, 0] rfl)
              · skip
                refine lv_iload hx hb dX9_findWord_79 (lv_at hl 4 rfl) ?_
                refine lv_aload_n hx hb dX9_findWord_81 rfl (lv_at hl 3 rfl) ?_
                refine q_rdT (i := t) (As := []) (rest := [.int (nI k)]) (c_J0_length_8abf5 l D cB cI cJ ad n M t   (by first | assumption | omega | exact vp_in_nI (by omega) (by decide) | exact vp_in_iff.mpr (by decide))) X hK hP hS hl.1 rfl gX9_findWord_J0_length_8abf5 yd_J0_length_8abf5 ⟨Nat.le_of_ble_eq_true rfl, Nat.le_of_ble_eq_true rfl⟩ (by first | omega | assumption | exact fwS_lt ..) rfl rfl (Nat.le_of_ble_eq_true rfl) ⟨Nat.zero_le _, Nat.zero_le _⟩ dX9_findWord_82 ?_
                refine lv_icmp_ne (tgt := 94) hx hb dX9_findWord_85 (by decide) (fun c_85 => ?_) (fun c_85 => ?_)
                · skip
                  refine lv_iinc (v := ((nI t) + 1)) (lv' := [(2, .int ((nI t) + 1)), (0, .ref (ad ta)), (1, .int (nI nx - nI pl)), (3, .ref (ad (2000 + t))), (4, .int (nI k))]) hx hb dX9_findWord_94 hl (k := 2) rfl rfl (by decide) rfl (fun ls hl => ?_)
                  refine lv_goto (tgt := 12) hx hb dX9_findWord_97 (by decide) ?_
                  exact ih_12 (t + 1) ((nI t) + 1) (by omega) (by omega) (by rw [← hf, show 20 - t = (20 - (t + 1)) + 1 by omega, fwS, hm]; first | (rw [if_neg c_76]; done) | (rw [if_pos c_76, if_neg c_85]; done)) (by first | rfl | exact nI_0.symm | exact nI_1 _) ls (lv_sub hl [1, 2, 0] rfl)
                · skip
                  refine q_gsW X hK hS dX9_findWord_88 ?_
                  refine lv_iload_n hx hb dX9_findWord_91 rfl (lv_at hl 2 rfl) ?_
                  refine q_aaldW (i := t) X hK hS (by first | omega | assumption | exact fwS_lt ..) dX9_findWord_92 ?_
                  exact q_aret X hr hlocks (by rw [← hf, show 20 - t = (20 - (t + 1)) + 1 by omega, fwS, hm, if_pos c_76, if_pos c_85]) dX9_findWord_93
            · skip
              refine lv_iload hx hb dX9_findWord_38 (lv_at hl 4 rfl) ?_
              refine lv_aload_n hx hb dX9_findWord_40 rfl (lv_at hl 3 rfl) ?_
              refine q_rdT (i := t) (As := []) (rest := [.int (nI k)]) (c_J0_length_8abf5 l D cB cI cJ ad n M t   (by first | assumption | omega | exact vp_in_nI (by omega) (by decide) | exact vp_in_iff.mpr (by decide))) X hK hP hS hl.1 rfl gX9_findWord_J0_length_8abf5 yd_J0_length_8abf5 ⟨Nat.le_of_ble_eq_true rfl, Nat.le_of_ble_eq_true rfl⟩ (by first | omega | assumption | exact fwS_lt ..) rfl rfl (Nat.le_of_ble_eq_true rfl) ⟨Nat.zero_le _, Nat.zero_le _⟩ dX9_findWord_41 ?_
              refine lv_icmp_ge (tgt := 73) hx hb dX9_findWord_44 (by decide) (fun c_44 => ?_) (fun c_44 => ?_)
              · skip
                have hm : wmS (nI en) bf (nI pl) (nI nx - nI pl) t 7 0 = k := by rw [← hs]; obtain ⟨r8, hr8⟩ : ∃ r8, r9 = r8 + 1 := ⟨r9 - 1, by omega⟩; rw [hr8, wmS, if_neg c_35, if_pos c_44]
                refine lv_iload hx hb dX9_findWord_73 (lv_at hl 4 rfl) ?_
                refine lv_iload_n hx hb dX9_findWord_75 rfl (lv_at hl 1 rfl) ?_
                refine lv_icmp_ne (tgt := 94) hx hb dX9_findWord_76 (by decide) (fun c_76 => ?_) (fun c_76 => ?_)
                · skip
                  refine lv_iinc (v := ((nI t) + 1)) (lv' := [(2, .int ((nI t) + 1)), (0, .ref (ad ta)), (1, .int (nI nx - nI pl)), (3, .ref (ad (2000 + t))), (4, .int (nI k))]) hx hb dX9_findWord_94 hl (k := 2) rfl rfl (by decide) rfl (fun ls hl => ?_)
                  refine lv_goto (tgt := 12) hx hb dX9_findWord_97 (by decide) ?_
                  exact ih_12 (t + 1) ((nI t) + 1) (by omega) (by omega) (by rw [← hf, show 20 - t = (20 - (t + 1)) + 1 by omega, fwS, hm]; first | (rw [if_neg c_76]; done) | (rw [if_pos c_76, if_neg c_85]; done)) (by first | rfl | exact nI_0.symm | exact nI_1 _) ls (lv_sub hl [1, 2, 0] rfl)
                · skip
                  refine lv_iload hx hb dX9_findWord_79 (lv_at hl 4 rfl) ?_
                  refine lv_aload_n hx hb dX9_findWord_81 rfl (lv_at hl 3 rfl) ?_
                  refine q_rdT (i := t) (As := []) (rest := [.int (nI k)]) (c_J0_length_8abf5 l D cB cI cJ ad n M t   (by first | assumption | omega | exact vp_in_nI (by omega) (by decide) | exact vp_in_iff.mpr (by decide))) X hK hP hS hl.1 rfl gX9_findWord_J0_length_8abf5 yd_J0_length_8abf5 ⟨Nat.le_of_ble_eq_true rfl, Nat.le_of_ble_eq_true rfl⟩ (by first | omega | assumption | exact fwS_lt ..) rfl rfl (Nat.le_of_ble_eq_true rfl) ⟨Nat.zero_le _, Nat.zero_le _⟩ dX9_findWord_82 ?_
                  refine lv_icmp_ne (tgt := 94) hx hb dX9_findWord_85 (by decide) (fun c_85 => ?_) (fun c_85 => ?_)
                  · skip
                    refine lv_iinc (v := ((nI t) + 1)) (lv' := [(2, .int ((nI t) + 1)), (0, .ref (ad ta)), (1, .int (nI nx - nI pl)), (3, .ref (ad (2000 + t))), (4, .int (nI k))]) hx hb dX9_findWord_94 hl (k := 2) rfl rfl (by decide) rfl (fun ls hl => ?_)
                    refine lv_goto (tgt := 12) hx hb dX9_findWord_97 (by decide) ?_
                    exact ih_12 (t + 1) ((nI t) + 1) (by omega) (by omega) (by rw [← hf, show 20 - t = (20 - (t + 1)) + 1 by omega, fwS, hm]; first | (rw [if_neg c_76]; done) | (rw [if_pos c_76, if_neg c_85]; done)) (by first | rfl | exact nI_0.symm | exact nI_1 _) ls (lv_sub hl [1, 2, 0] rfl)
                  · skip
                    refine q_gsW X hK hS dX9_findWord_88 ?_
                    refine lv_iload_n hx hb dX9_findWord_91 rfl (lv_at hl 2 rfl) ?_
                    refine q_aaldW (i := t) X hK hS (by first | omega | assumption | exact fwS_lt ..) dX9_findWord_92 ?_
                    exact q_aret X hr hlocks (by rw [← hf, show 20 - t = (20 - (t + 1)) + 1 by omega, fwS, hm, if_pos c_76, if_pos c_85]) dX9_findWord_93
              · skip
                have hkl : k < wLn.getD t 0 := lt_of_nlt c_44 (by omega) hk
                refine lv_aload_n hx hb dX9_findWord_47 rfl (lv_at hl 3 rfl) ?_
                refine lv_iload hx hb dX9_findWord_48 (lv_at hl 4 rfl) ?_
                refine q_rdT (i := t) (As := [.int (nI k)]) (rest := []) (c_J0_charAt_5068e l D cB cI cJ ad n M t k   (by first | assumption | omega | exact vp_in_nI (by omega) (by decide) | exact vp_in_iff.mpr (by decide)) (by first | assumption | omega | exact vp_in_nI (by omega) (by decide) | exact vp_in_iff.mpr (by decide))) X hK hP hS hl.1 rfl gX9_findWord_J0_charAt_5068e yd_J0_charAt_5068e ⟨Nat.le_of_ble_eq_true rfl, Nat.le_of_ble_eq_true rfl⟩ (by first | omega | assumption | exact fwS_lt ..) rfl rfl (Nat.le_of_ble_eq_true rfl) ⟨Nat.zero_le _, Nat.zero_le _⟩ dX9_findWord_50 ?_
                refine lv_aload_n hx hb dX9_findWord_53 rfl (lv_at hl 0 rfl) ?_
                refine lv_aload_n hx hb dX9_findWord_54 rfl (lv_at hl 0 rfl) ?_
                refine q_get (v := .int (nI pl)) (fs := tapeF ad ta ln (nI en) (nI nx) (nI pl) kd nu wo) X hK hP fX9_findWord_41 h_ta m_ta rfl dX9_findWord_55 ?_
                refine lv_iload hx hb dX9_findWord_58 (lv_at hl 4 rfl) ?_
                refine lv_iadd hx hb dX9_findWord_60 ?_
                refine q_rdV (As := [.int ((nI pl) + (nI k))]) (rest := [.int ((wBy.getD t []).getD k 0)]) (c_X9_byteAt l D cB cI cJ ad n M ta wo ln (nI en) (nI nx) (nI pl) kd nu bf ((nI pl) + (nI k)) h_ta h_ta_1 m_ta m_ta_1 ) X hK hP hS hl.1 rfl gX9_findWord_X9_byteAt yd_X9_byteAt ⟨Nat.le_of_ble_eq_true rfl, Nat.le_of_ble_eq_true rfl⟩ h_ta m_ta (ci := 9) rfl rfl (Nat.le_of_ble_eq_true rfl) ⟨Nat.zero_le _, Nat.zero_le _⟩ dX9_findWord_61 ?_
                refine lv_icmp_ne (tgt := 73) hx hb dX9_findWord_64 (by decide) (fun c_64 => ?_) (fun c_64 => ?_)
                · skip
                  have hm : wmS (nI en) bf (nI pl) (nI nx - nI pl) t 7 0 = k := by rw [← hs]; obtain ⟨r8, hr8⟩ : ∃ r8, r9 = r8 + 1 := ⟨r9 - 1, by omega⟩; rw [hr8, wmS, if_neg c_35, if_neg c_44, if_neg c_64]
                  refine lv_iload hx hb dX9_findWord_73 (lv_at hl 4 rfl) ?_
                  refine lv_iload_n hx hb dX9_findWord_75 rfl (lv_at hl 1 rfl) ?_
                  refine lv_icmp_ne (tgt := 94) hx hb dX9_findWord_76 (by decide) (fun c_76 => ?_) (fun c_76 => ?_)
                  · skip
                    refine lv_iinc (v := ((nI t) + 1)) (lv' := [(2, .int ((nI t) + 1)), (0, .ref (ad ta)), (1, .int (nI nx - nI pl)), (3, .ref (ad (2000 + t))), (4, .int (nI k))]) hx hb dX9_findWord_94 hl (k := 2) rfl rfl (by decide) rfl (fun ls hl => ?_)
                    refine lv_goto (tgt := 12) hx hb dX9_findWord_97 (by decide) ?_
                    exact ih_12 (t + 1) ((nI t) + 1) (by omega) (by omega) (by rw [← hf, show 20 - t = (20 - (t + 1)) + 1 by omega, fwS, hm]; first | (rw [if_neg c_76]; done) | (rw [if_pos c_76, if_neg c_85]; done)) (by first | rfl | exact nI_0.symm | exact nI_1 _) ls (lv_sub hl [1, 2, 0] rfl)
                  · skip
                    refine lv_iload hx hb dX9_findWord_79 (lv_at hl 4 rfl) ?_
                    refine lv_aload_n hx hb dX9_findWord_81 rfl (lv_at hl 3 rfl) ?_
                    refine q_rdT (i := t) (As := []) (rest := [.int (nI k)]) (c_J0_length_8abf5 l D cB cI cJ ad n M t   (by first | assumption | omega | exact vp_in_nI (by omega) (by decide) | exact vp_in_iff.mpr (by decide))) X hK hP hS hl.1 rfl gX9_findWord_J0_length_8abf5 yd_J0_length_8abf5 ⟨Nat.le_of_ble_eq_true rfl, Nat.le_of_ble_eq_true rfl⟩ (by first | omega | assumption | exact fwS_lt ..) rfl rfl (Nat.le_of_ble_eq_true rfl) ⟨Nat.zero_le _, Nat.zero_le _⟩ dX9_findWord_82 ?_
                    refine lv_icmp_ne (tgt := 94) hx hb dX9_findWord_85 (by decide) (fun c_85 => ?_) (fun c_85 => ?_)
                    · skip
                      refine lv_iinc (v := ((nI t) + 1)) (lv' := [(2, .int ((nI t) + 1)), (0, .ref (ad ta)), (1, .int (nI nx - nI pl)), (3, .ref (ad (2000 + t))), (4, .int (nI k))]) hx hb dX9_findWord_94 hl (k := 2) rfl rfl (by decide) rfl (fun ls hl => ?_)
                      refine lv_goto (tgt := 12) hx hb dX9_findWord_97 (by decide) ?_
                      exact ih_12 (t + 1) ((nI t) + 1) (by omega) (by omega) (by rw [← hf, show 20 - t = (20 - (t + 1)) + 1 by omega, fwS, hm]; first | (rw [if_neg c_76]; done) | (rw [if_pos c_76, if_neg c_85]; done)) (by first | rfl | exact nI_0.symm | exact nI_1 _) ls (lv_sub hl [1, 2, 0] rfl)
                    · skip
                      refine q_gsW X hK hS dX9_findWord_88 ?_
                      refine lv_iload_n hx hb dX9_findWord_91 rfl (lv_at hl 2 rfl) ?_
                      refine q_aaldW (i := t) X hK hS (by first | omega | assumption | exact fwS_lt ..) dX9_findWord_92 ?_
                      exact q_aret X hr hlocks (by rw [← hf, show 20 - t = (20 - (t + 1)) + 1 by omega, fwS, hm, if_pos c_76, if_pos c_85]) dX9_findWord_93
                · skip
                  refine lv_iinc (v := ((nI k) + 1)) (lv' := [(4, .int ((nI k) + 1)), (0, .ref (ad ta)), (1, .int (nI nx - nI pl)), (2, .int (nI t)), (3, .ref (ad (2000 + t)))]) hx hb dX9_findWord_67 hl (k := 4) rfl rfl (by decide) rfl (fun ls hl => ?_)
                  refine lv_goto (tgt := 32) hx hb dX9_findWord_70 (by decide) ?_
                  exact ih_32 (k + 1) (r9 - 1) ((nI k) + 1) (by omega) (by omega) (by omega) (by rw [← hs]; obtain ⟨r8, hr8⟩ : ∃ r8, r9 = r8 + 1 := ⟨r9 - 1, by omega⟩; rw [hr8, show r8 + 1 - 1 = r8 by omega, wmS, if_neg c_35, if_neg c_44, if_pos c_64]) (by first | rfl | exact nI_0.symm | exact nI_1 _) ls (lv_sub hl [1, 2, 3, 4, 0] rfl)
        exact loop_32 (8) 0 7 0 (by omega) (by omega) (by have := w_ln t (by omega); omega) (by rfl) (by first | rfl | exact nI_0.symm | exact nI_1 _) ls (lv_sub hl [2, 3, 4, 1, 0] rfl)
  exact loop_12 (21) 0 0 (by omega) (by omega) (by rfl) (by first | rfl | exact nI_0.symm | exact nI_1 _) ls (lv_sub hl [2, 1, 0] rfl)
set_option maxRecDepth 20000 in
theorem fX9_advance_31 : FL wsX9_advance RX9 31 9 3 := ⟨RX9, TX9, 8, rfl, by decide +kernel, by decide, by decide +kernel⟩
set_option maxRecDepth 20000 in
theorem fX9_advance_28 : FL wsX9_advance RX9 28 9 2 := ⟨RX9, TX9, 8, rfl, by decide +kernel, by decide, by decide +kernel⟩
set_option maxRecDepth 20000 in
theorem fX9_advance_41 : FL wsX9_advance RX9 41 9 4 := ⟨RX9, TX9, 8, rfl, by decide +kernel, by decide, by decide +kernel⟩
theorem fw_9_4 : FW 9 4 .int := ⟨RX9, TX9, 8, tyX9, rfl, tyX9_ok, nmX9, by decide, rfl, by decide +kernel⟩
set_option maxRecDepth 20000 in
theorem fX9_advance_21 : FL wsX9_advance RX9 21 9 7 := ⟨RX9, TX9, 8, rfl, by decide +kernel, by decide, by decide +kernel⟩
theorem fw_9_7 : FW 9 7 (.object "PoundsOver$Word") := ⟨RX9, TX9, 8, tyX9, rfl, tyX9_ok, nmX9, by decide, rfl, by decide +kernel⟩
theorem yd_X9_isLetter : YD yX9_isLetter 1 := ⟨by decide +kernel, by decide +kernel, by decide +kernel⟩
theorem yd_X9_isDigit : YD yX9_isDigit 1 := ⟨by decide +kernel, by decide +kernel, by decide +kernel⟩
theorem fw_9_3 : FW 9 3 .int := ⟨RX9, TX9, 8, tyX9, rfl, tyX9_ok, nmX9, by decide, rfl, by decide +kernel⟩
theorem yd_X9_isSign : YD yX9_isSign 1 := ⟨by decide +kernel, by decide +kernel, by decide +kernel⟩
set_option maxRecDepth 20000 in
theorem fX9_advance_44 : FL wsX9_advance RX9 44 9 5 := ⟨RX9, TX9, 8, rfl, by decide +kernel, by decide, by decide +kernel⟩
theorem fw_9_5 : FW 9 5 .int := ⟨RX9, TX9, 8, tyX9, rfl, tyX9_ok, nmX9, by decide, rfl, by decide +kernel⟩
theorem yd_X9_findNumber : YD yX9_findNumber 0 := ⟨by decide +kernel, by decide +kernel, by decide +kernel⟩
set_option maxRecDepth 20000 in
theorem fX9_advance_62 : FL wsX9_advance RX9 62 9 6 := ⟨RX9, TX9, 8, rfl, by decide +kernel, by decide, by decide +kernel⟩
theorem fw_9_6 : FW 9 6 .int := ⟨RX9, TX9, 8, tyX9, rfl, tyX9_ok, nmX9, by decide, rfl, by decide +kernel⟩
theorem yd_X9_findWord : YD yX9_findWord 0 := ⟨by decide +kernel, by decide +kernel, by decide +kernel⟩
set_option maxHeartbeats 4000000 in
set_option maxRecDepth 100000 in
theorem c_X9_advance (l : Launch) (D : va_G) (cB cI cJ : ClassId) (ad : Nat → Nat) (n : Nat) (M : Nat → va_E) (hI : ipI ad n) (ta en nx wo : Nat) (ln kd nu : Int32) (bf : Nat → Int32) (pl : Int32) (h_ta : ta < n) (h_ta_1 : ta + 1 < n) (m_ta : M ta = .inr (9, tapeF ad ta ln (nI en) (nI nx) pl kd nu wo)) (m_ta_1 : M (ta + 1) = .inl (cB, 700, .inl bf)) (hne : nx ≤ en) (hen : en ≤ 700) : cWv l D cB cI cJ ad n M yX9_advance wsX9_advance 5 109 [.ref (ad ta)] (fun M' => M' ta = .inr (9, tapeF ad ta ln (nI en) (nI (avN en bf (skS en bf 701 nx))) (nI (skS en bf 701 nx)) (avK en bf (skS en bf 701 nx)) (avU en bf (skS en bf 701 nx) nu) (avW en bf (skS en bf 701 nx))) ∧ ∀ q : Nat, q ≠ ta → M' q = M q) := by
  refine q_body (cc := cX9_advance) (maxL := 4) (ret := none) (by decide) rfl (Nat.le_of_ble_eq_true rfl) ?_
  intro p e s m args below meth c ls X hr hlocks hK hP hl
  obtain ⟨hx, hb, hml, hown, hts⟩ := id X
  have hS : va_S (ipA ad n) s.heap s.heap [] := va_S.rf
  have hl : lv_has ls 4 [(0, .ref (ad ta))] := hl
  have loop_0 : ∀ (fuel : Nat) (x0 r9 : Nat), en - x0 < fuel → (x0 ≤ en) → (en < x0 + r9) → (skS en bf r9 x0 = skS en bf 701 nx) → ∀ (ML0 : Nat → va_E) (H : Heap) (locs : List Loc), ML0 ta = .inr (9, tapeF ad ta ln (nI en) (nI x0) pl kd nu wo) → (∀ q : Nat, q ≠ ta → ML0 q = M q) → va_P D vwCl (ip ad n ML0) H → va_S (ipA ad n) s.heap H locs → ∀ (ls : Array Slot), lv_has ls 4 [(0, .ref (ad ta))] → W p l e (rmOf 5 109) s m args below meth c H locs 0 0 (MQ below (va_Qv (fun M' => M' ta = .inr (9, tapeF ad ta ln (nI en) (nI (avN en bf (skS en bf 701 nx))) (nI (skS en bf 701 nx)) (avK en bf (skS en bf 701 nx)) (avU en bf (skS en bf 701 nx) nu) (avW en bf (skS en bf 701 nx))) ∧ ∀ q : Nat, q ≠ ta → M' q = M q) (fun M' t => va_P D vwCl (ip ad n M') t.heap) (ipA ad n)) args s 0 0 (ipA ad n)) (F0 m 0 ls []) := by
    intro fuel
    induction fuel with
    | zero =>
      intro x0 r9 hz
      exact absurd hz (Nat.not_lt_zero _)
    | succ fuel ih_0 =>
      intro x0 r9 hz_0 hx0 hr9 hs0 ML0 H locs mL0_0 fL0 hP hS ls hl
      skip
      refine lv_aload_n hx hb dX9_advance_0 rfl (lv_at hl 0 rfl) ?_
      refine q_get (v := .int (nI x0)) (fs := tapeF ad ta ln (nI en) (nI x0) pl kd nu wo) X hK hP fX9_advance_31 h_ta mL0_0 rfl dX9_advance_1 ?_
      refine lv_aload_n hx hb dX9_advance_4 rfl (lv_at hl 0 rfl) ?_
      refine q_get (v := .int (nI en)) (fs := tapeF ad ta ln (nI en) (nI x0) pl kd nu wo) X hK hP fX9_advance_28 h_ta mL0_0 rfl dX9_advance_5 ?_
      refine lv_icmp_ge (tgt := 50) hx hb dX9_advance_8 (by decide) (fun c_8 => ?_) (fun c_8 => ?_)
      · skip
        have hm0 : skS en bf 701 nx = x0 := by rw [← hs0]; obtain ⟨r8, hr8⟩ : ∃ r8, r9 = r8 + 1 := ⟨r9 - 1, by omega⟩; rw [hr8, skS, if_pos c_8]
        refine lv_aload_n hx hb dX9_advance_50 rfl (lv_at hl 0 rfl) ?_
        refine lv_aload_n hx hb dX9_advance_51 rfl (lv_at hl 0 rfl) ?_
        refine q_get (v := .int (nI x0)) (fs := tapeF ad ta ln (nI en) (nI x0) pl kd nu wo) X hK hP fX9_advance_31 h_ta mL0_0 rfl dX9_advance_52 ?_
        refine q_put (fs := tapeF ad ta ln (nI en) (nI x0) pl kd nu wo) (fs' := tapeF ad ta ln (nI en) (nI x0) (nI x0) kd nu wo) X hK hI hP hS fX9_advance_41 fw_9_4 h_ta mL0_0 rfl rfl (Nat.le_of_ble_eq_true rfl) rfl dX9_advance_55 (fun H locs hP hS => ?_)
        refine lv_aload_n hx hb dX9_advance_58 rfl (lv_at hl 0 rfl) ?_
        refine q_gsE (i := 0) (nm := "OTHER") X hK hS (by decide) rfl (by decide +kernel) dX9_advance_59 ?_
        refine q_put (fs := tapeF ad ta ln (nI en) (nI x0) (nI x0) kd nu wo) (fs' := tapeF ad ta ln (nI en) (nI x0) (nI x0) kd nu 0) X hK hI hP hS fX9_advance_21 fw_9_7 h_ta (va_up_self ML0 ta (.inr (9, tapeF ad ta ln (nI en) (nI x0) (nI x0) kd nu wo))) rfl rfl (Nat.le_of_ble_eq_true rfl) rfl dX9_advance_62 (fun H locs hP hS => ?_)
        refine lv_aload_n hx hb dX9_advance_65 rfl (lv_at hl 0 rfl) ?_
        refine lv_aload_n hx hb dX9_advance_66 rfl (lv_at hl 0 rfl) ?_
        refine q_get (v := .int (nI x0)) (fs := tapeF ad ta ln (nI en) (nI x0) (nI x0) kd nu 0) X hK hP fX9_advance_41 h_ta (va_up_self (va_up ML0 ta (.inr (9, tapeF ad ta ln (nI en) (nI x0) (nI x0) kd nu wo))) ta (.inr (9, tapeF ad ta ln (nI en) (nI x0) (nI x0) kd nu 0))) rfl dX9_advance_67 ?_
        refine q_rdV (As := [.int (nI x0)]) (rest := []) (c_X9_byteAt l D cB cI cJ ad n (va_up (va_up ML0 ta (.inr (9, tapeF ad ta ln (nI en) (nI x0) (nI x0) kd nu wo))) ta (.inr (9, tapeF ad ta ln (nI en) (nI x0) (nI x0) kd nu 0))) ta 0 ln (nI en) (nI x0) (nI x0) kd nu bf (nI x0) h_ta h_ta_1 (va_up_self (va_up ML0 ta (.inr (9, tapeF ad ta ln (nI en) (nI x0) (nI x0) kd nu wo))) ta (.inr (9, tapeF ad ta ln (nI en) (nI x0) (nI x0) kd nu 0))) ((va_up_ne (va_up ML0 ta (.inr (9, tapeF ad ta ln (nI en) (nI x0) (nI x0) kd nu wo))) (.inr (9, tapeF ad ta ln (nI en) (nI x0) (nI x0) kd nu 0)) (show ta + 1 ≠ ta by omega)).trans ((va_up_ne ML0 (.inr (9, tapeF ad ta ln (nI en) (nI x0) (nI x0) kd nu wo)) (show ta + 1 ≠ ta by omega)).trans ((fL0 (ta + 1) (by omega)).trans m_ta_1))) ) X hK hP hS hl.1 rfl gX9_advance_X9_byteAt yd_X9_byteAt ⟨Nat.le_of_ble_eq_true rfl, Nat.le_of_ble_eq_true rfl⟩ h_ta (va_up_self (va_up ML0 ta (.inr (9, tapeF ad ta ln (nI en) (nI x0) (nI x0) kd nu wo))) ta (.inr (9, tapeF ad ta ln (nI en) (nI x0) (nI x0) kd nu 0))) (ci := 9) rfl rfl (Nat.le_of_ble_eq_true rfl) ⟨Nat.zero_le _, Nat.zero_le _⟩ dX9_advance_70 ?_
        refine lv_istore_n (lv' := [(1, .int (s_X9_byteAt (nI en) bf (nI x0))), (0, .ref (ad ta))]) hx hb dX9_advance_73 rfl hl (by decide) rfl (fun ls hl => ?_)
        refine lv_iload_n hx hb dX9_advance_74 rfl (lv_at hl 0 rfl) ?_
        refine lv_iconst (v := (-1)) hx hb dX9_advance_75 (by decide) ?_
        refine lv_icmp_ne (tgt := 85) hx hb dX9_advance_76 (by decide) (fun c_76 => ?_) (fun c_76 => ?_)
        · skip
          refine lv_iload_n hx hb dX9_advance_85 rfl (lv_at hl 0 rfl) ?_
          refine q_rdS (As := [.int (s_X9_byteAt (nI en) bf (nI x0))]) (rest := []) (c_X9_isLetter l D cB cI cJ ad n (va_up (va_up ML0 ta (.inr (9, tapeF ad ta ln (nI en) (nI x0) (nI x0) kd nu wo))) ta (.inr (9, tapeF ad ta ln (nI en) (nI x0) (nI x0) kd nu 0))) (s_X9_byteAt (nI en) bf (nI x0))   ) X hK hP hS hl.1 rfl gX9_advance_X9_isLetter yd_X9_isLetter ⟨Nat.le_of_ble_eq_true rfl, Nat.le_of_ble_eq_true rfl⟩ rfl (Nat.le_of_ble_eq_true rfl) ⟨Nat.zero_le _, Nat.zero_le _⟩ dX9_advance_86 ?_
          refine lv_istore_n (lv' := [(2, .int (s_X9_isLetter (s_X9_byteAt (nI en) bf (nI x0)))), (1, .int (s_X9_byteAt (nI en) bf (nI x0))), (0, .ref (ad ta))]) hx hb dX9_advance_89 rfl hl (by decide) rfl (fun ls hl => ?_)
          refine lv_iload_n hx hb dX9_advance_90 rfl (lv_at hl 1 rfl) ?_
          refine q_rdS (As := [.int (s_X9_byteAt (nI en) bf (nI x0))]) (rest := []) (c_X9_isDigit l D cB cI cJ ad n (va_up (va_up ML0 ta (.inr (9, tapeF ad ta ln (nI en) (nI x0) (nI x0) kd nu wo))) ta (.inr (9, tapeF ad ta ln (nI en) (nI x0) (nI x0) kd nu 0))) (s_X9_byteAt (nI en) bf (nI x0))   ) X hK hP hS hl.1 rfl gX9_advance_X9_isDigit yd_X9_isDigit ⟨Nat.le_of_ble_eq_true rfl, Nat.le_of_ble_eq_true rfl⟩ rfl (Nat.le_of_ble_eq_true rfl) ⟨Nat.zero_le _, Nat.zero_le _⟩ dX9_advance_91 ?_
          refine lv_istore_n (lv' := [(3, .int (s_X9_isDigit (s_X9_byteAt (nI en) bf (nI x0)))), (2, .int (s_X9_isLetter (s_X9_byteAt (nI en) bf (nI x0)))), (1, .int (s_X9_byteAt (nI en) bf (nI x0))), (0, .ref (ad ta))]) hx hb dX9_advance_94 rfl hl (by decide) rfl (fun ls hl => ?_)
          refine lv_aload_n hx hb dX9_advance_95 rfl (lv_at hl 3 rfl) ?_
          refine lv_dup hx hb dX9_advance_96 rfl ?_
          refine q_get (v := .int (nI x0)) (fs := tapeF ad ta ln (nI en) (nI x0) (nI x0) kd nu 0) X hK hP fX9_advance_31 h_ta (va_up_self (va_up ML0 ta (.inr (9, tapeF ad ta ln (nI en) (nI x0) (nI x0) kd nu wo))) ta (.inr (9, tapeF ad ta ln (nI en) (nI x0) (nI x0) kd nu 0))) rfl dX9_advance_97 ?_
          refine lv_iconst (v := 1) hx hb dX9_advance_100 (by decide) ?_
          refine lv_iadd hx hb dX9_advance_101 ?_
          refine q_put (fs := tapeF ad ta ln (nI en) (nI x0) (nI x0) kd nu 0) (fs' := tapeF ad ta ln (nI en) ((nI x0) + 1) (nI x0) kd nu 0) X hK hI hP hS fX9_advance_31 fw_9_3 h_ta (va_up_self (va_up ML0 ta (.inr (9, tapeF ad ta ln (nI en) (nI x0) (nI x0) kd nu wo))) ta (.inr (9, tapeF ad ta ln (nI en) (nI x0) (nI x0) kd nu 0))) rfl rfl (Nat.le_of_ble_eq_true rfl) rfl dX9_advance_102 (fun H locs hP hS => ?_)
          have loop_105 : ∀ (fuel : Nat) (x1 r7 : Nat), en - x1 < fuel → (x1 ≤ en) → (x0 < x1) → (en < x1 + r7) → (rgS en bf (s_X9_isLetter (s_X9_byteAt (nI en) bf (nI x0))) (s_X9_isDigit (s_X9_byteAt (nI en) bf (nI x0))) r7 x1 = rgS en bf (s_X9_isLetter (s_X9_byteAt (nI en) bf (nI x0))) (s_X9_isDigit (s_X9_byteAt (nI en) bf (nI x0))) 701 (x0 + 1)) → ∀ (ML105 : Nat → va_E) (H : Heap) (locs : List Loc), ML105 ta = .inr (9, tapeF ad ta ln (nI en) (nI x1) (nI x0) kd nu 0) → (∀ q : Nat, q ≠ ta → ML105 q = M q) → va_P D vwCl (ip ad n ML105) H → va_S (ipA ad n) s.heap H locs → ∀ (ls : Array Slot), lv_has ls 4 [(0, .ref (ad ta)), (1, .int (s_X9_byteAt (nI en) bf (nI x0))), (2, .int (s_X9_isLetter (s_X9_byteAt (nI en) bf (nI x0)))), (3, .int (s_X9_isDigit (s_X9_byteAt (nI en) bf (nI x0))))] → W p l e (rmOf 5 109) s m args below meth c H locs 0 0 (MQ below (va_Qv (fun M' => M' ta = .inr (9, tapeF ad ta ln (nI en) (nI (avN en bf (skS en bf 701 nx))) (nI (skS en bf 701 nx)) (avK en bf (skS en bf 701 nx)) (avU en bf (skS en bf 701 nx) nu) (avW en bf (skS en bf 701 nx))) ∧ ∀ q : Nat, q ≠ ta → M' q = M q) (fun M' t => va_P D vwCl (ip ad n M') t.heap) (ipA ad n)) args s 0 0 (ipA ad n)) (F0 m 105 ls []) := by
            intro fuel
            induction fuel with
            | zero =>
              intro x1 r7 hz
              exact absurd hz (Nat.not_lt_zero _)
            | succ fuel ih_105 =>
              intro x1 r7 hz_105 hx1 hx2 hr7 hs1 ML105 H locs mL105_0 fL105 hP hS ls hl
              skip
              refine lv_aload_n hx hb dX9_advance_105 rfl (lv_at hl 0 rfl) ?_
              refine q_get (v := .int (nI x1)) (fs := tapeF ad ta ln (nI en) (nI x1) (nI x0) kd nu 0) X hK hP fX9_advance_31 h_ta mL105_0 rfl dX9_advance_106 ?_
              refine lv_aload_n hx hb dX9_advance_109 rfl (lv_at hl 0 rfl) ?_
              refine q_get (v := .int (nI en)) (fs := tapeF ad ta ln (nI en) (nI x1) (nI x0) kd nu 0) X hK hP fX9_advance_28 h_ta mL105_0 rfl dX9_advance_110 ?_
              refine lv_icmp_ge (tgt := 165) hx hb dX9_advance_113 (by decide) (fun c_113 => ?_) (fun c_113 => ?_)
              · skip
                have hm1 : rgS en bf (s_X9_isLetter (s_X9_byteAt (nI en) bf (nI x0))) (s_X9_isDigit (s_X9_byteAt (nI en) bf (nI x0))) 701 (x0 + 1) = x1 := by rw [← hs1]; obtain ⟨r8, hr8⟩ : ∃ r8, r7 = r8 + 1 := ⟨r7 - 1, by omega⟩; rw [hr8, rgS, if_pos c_113]
                refine lv_iload_n hx hb dX9_advance_165 rfl (lv_at hl 2 rfl) ?_
                refine lv_if_eq (tgt := 185) hx hb dX9_advance_166 (by decide) (fun c_166 => ?_) (fun c_166 => ?_)
                · skip
                  refine lv_iload_n hx hb dX9_advance_185 rfl (lv_at hl 3 rfl) ?_
                  refine lv_if_eq (tgt := 205) hx hb dX9_advance_186 (by decide) (fun c_186 => ?_) (fun c_186 => ?_)
                  · skip
                    refine lv_aload_n hx hb dX9_advance_205 rfl (lv_at hl 0 rfl) ?_
                    refine lv_iload_n hx hb dX9_advance_206 rfl (lv_at hl 1 rfl) ?_
                    refine q_rdS (As := [.int (s_X9_byteAt (nI en) bf (nI x0))]) (rest := [.ref (ad ta)]) (c_X9_isSign l D cB cI cJ ad n ML105 (s_X9_byteAt (nI en) bf (nI x0))   ) X hK hP hS hl.1 rfl gX9_advance_X9_isSign yd_X9_isSign ⟨Nat.le_of_ble_eq_true rfl, Nat.le_of_ble_eq_true rfl⟩ rfl (Nat.le_of_ble_eq_true rfl) ⟨Nat.zero_le _, Nat.zero_le _⟩ dX9_advance_207 ?_
                    refine lv_if_eq (tgt := 217) hx hb dX9_advance_210 (by decide) (fun c_210 => ?_) (fun c_210 => ?_)
                    · skip
                      refine lv_iconst (v := 3) hx hb dX9_advance_217 (by decide) ?_
                      refine q_put (fs := tapeF ad ta ln (nI en) (nI x1) (nI x0) kd nu 0) (fs' := tapeF ad ta ln (nI en) (nI x1) (nI x0) 3 nu 0) X hK hI hP hS fX9_advance_44 fw_9_5 h_ta mL105_0 rfl rfl (Nat.le_of_ble_eq_true rfl) rfl dX9_advance_218 (fun H locs hP hS => ?_)
                      exact q_wvret X hr hlocks hP hS ⟨(by refine (va_up_self ML105 ta (.inr (9, tapeF ad ta ln (nI en) (nI x1) (nI x0) 3 nu 0))).trans ?_; have hN : avN en bf x0 = x1 := (by rw [avN, if_neg c_76]; exact hm1); rw [hm0, avK, avU, avW, hN, if_neg c_76, if_neg c_76, if_neg c_76]; first | (rw [if_neg c_166, if_neg c_166, if_neg c_166]; done) | (rw [if_pos c_166, if_pos c_166, if_pos c_166, if_neg c_186, if_neg c_186]; done) | (rw [if_pos c_166, if_pos c_166, if_pos c_166, if_pos c_186, if_pos c_186, if_pos c_210]; done) | (rw [if_pos c_166, if_pos c_166, if_pos c_166, if_pos c_186, if_pos c_186, if_neg c_210]; done)), (fun q n0 => ((va_up_ne _ _ n0).trans (fL105 q n0)))⟩ dX9_advance_221
                    · skip
                      refine lv_iload_n hx hb dX9_advance_213 rfl (lv_at hl 1 rfl) ?_
                      refine lv_goto (tgt := 218) hx hb dX9_advance_214 (by decide) ?_
                      refine q_put (fs := tapeF ad ta ln (nI en) (nI x1) (nI x0) kd nu 0) (fs' := tapeF ad ta ln (nI en) (nI x1) (nI x0) (s_X9_byteAt (nI en) bf (nI x0)) nu 0) X hK hI hP hS fX9_advance_44 fw_9_5 h_ta mL105_0 rfl rfl (Nat.le_of_ble_eq_true rfl) rfl dX9_advance_218 (fun H locs hP hS => ?_)
                      exact q_wvret X hr hlocks hP hS ⟨(by refine (va_up_self ML105 ta (.inr (9, tapeF ad ta ln (nI en) (nI x1) (nI x0) (s_X9_byteAt (nI en) bf (nI x0)) nu 0))).trans ?_; have hN : avN en bf x0 = x1 := (by rw [avN, if_neg c_76]; exact hm1); rw [hm0, avK, avU, avW, hN, if_neg c_76, if_neg c_76, if_neg c_76]; first | (rw [if_neg c_166, if_neg c_166, if_neg c_166]; done) | (rw [if_pos c_166, if_pos c_166, if_pos c_166, if_neg c_186, if_neg c_186]; done) | (rw [if_pos c_166, if_pos c_166, if_pos c_166, if_pos c_186, if_pos c_186, if_pos c_210]; done) | (rw [if_pos c_166, if_pos c_166, if_pos c_166, if_pos c_186, if_pos c_186, if_neg c_210]; done)), (fun q n0 => ((va_up_ne _ _ n0).trans (fL105 q n0)))⟩ dX9_advance_221
                  · skip
                    refine lv_aload_n hx hb dX9_advance_189 rfl (lv_at hl 0 rfl) ?_
                    refine lv_iconst (v := 2) hx hb dX9_advance_190 (by decide) ?_
                    refine q_put (fs := tapeF ad ta ln (nI en) (nI x1) (nI x0) kd nu 0) (fs' := tapeF ad ta ln (nI en) (nI x1) (nI x0) 2 nu 0) X hK hI hP hS fX9_advance_44 fw_9_5 h_ta mL105_0 rfl rfl (Nat.le_of_ble_eq_true rfl) rfl dX9_advance_191 (fun H locs hP hS => ?_)
                    refine lv_aload_n hx hb dX9_advance_194 rfl (lv_at hl 0 rfl) ?_
                    refine lv_aload_n hx hb dX9_advance_195 rfl (lv_at hl 0 rfl) ?_
                    refine q_rdV (As := []) (rest := [.ref (ad ta)]) (c_X9_findNumber l D cB cI cJ ad n (va_up ML105 ta (.inr (9, tapeF ad ta ln (nI en) (nI x1) (nI x0) 2 nu 0))) ta en x1 x0 0 ln 2 nu bf h_ta h_ta_1 (va_up_self ML105 ta (.inr (9, tapeF ad ta ln (nI en) (nI x1) (nI x0) 2 nu 0))) ((va_up_ne ML105 (.inr (9, tapeF ad ta ln (nI en) (nI x1) (nI x0) 2 nu 0)) (show ta + 1 ≠ ta by omega)).trans ((fL105 (ta + 1) (by omega)).trans m_ta_1)) (by first | assumption | omega | exact vp_in_nI (by omega) (by decide) | exact vp_in_iff.mpr (by decide)) (by first | assumption | omega | exact vp_in_nI (by omega) (by decide) | exact vp_in_iff.mpr (by decide))) X hK hP hS hl.1 rfl gX9_advance_X9_findNumber yd_X9_findNumber ⟨Nat.le_of_ble_eq_true rfl, Nat.le_of_ble_eq_true rfl⟩ h_ta (va_up_self ML105 ta (.inr (9, tapeF ad ta ln (nI en) (nI x1) (nI x0) 2 nu 0))) (ci := 9) rfl rfl (Nat.le_of_ble_eq_true rfl) ⟨Nat.zero_le _, Nat.zero_le _⟩ dX9_advance_196 ?_
                    refine q_put (fs := tapeF ad ta ln (nI en) (nI x1) (nI x0) 2 nu 0) (fs' := tapeF ad ta ln (nI en) (nI x1) (nI x0) 2 (fnS (nI en) bf x0 x1) 0) X hK hI hP hS fX9_advance_62 fw_9_6 h_ta (va_up_self ML105 ta (.inr (9, tapeF ad ta ln (nI en) (nI x1) (nI x0) 2 nu 0))) rfl rfl (Nat.le_of_ble_eq_true rfl) rfl dX9_advance_199 (fun H locs hP hS => ?_)
                    refine lv_goto (tgt := 221) hx hb dX9_advance_202 (by decide) ?_
                    exact q_wvret X hr hlocks hP hS ⟨(by refine (va_up_self (va_up ML105 ta (.inr (9, tapeF ad ta ln (nI en) (nI x1) (nI x0) 2 nu 0))) ta (.inr (9, tapeF ad ta ln (nI en) (nI x1) (nI x0) 2 (fnS (nI en) bf x0 x1) 0))).trans ?_; have hN : avN en bf x0 = x1 := (by rw [avN, if_neg c_76]; exact hm1); rw [hm0, avK, avU, avW, hN, if_neg c_76, if_neg c_76, if_neg c_76]; first | (rw [if_neg c_166, if_neg c_166, if_neg c_166]; done) | (rw [if_pos c_166, if_pos c_166, if_pos c_166, if_neg c_186, if_neg c_186]; done) | (rw [if_pos c_166, if_pos c_166, if_pos c_166, if_pos c_186, if_pos c_186, if_pos c_210]; done) | (rw [if_pos c_166, if_pos c_166, if_pos c_166, if_pos c_186, if_pos c_186, if_neg c_210]; done)), (fun q n0 => ((va_up_ne _ _ n0).trans ((va_up_ne _ _ n0).trans (fL105 q n0))))⟩ dX9_advance_221
                · skip
                  refine lv_aload_n hx hb dX9_advance_169 rfl (lv_at hl 0 rfl) ?_
                  refine lv_iconst (v := 1) hx hb dX9_advance_170 (by decide) ?_
                  refine q_put (fs := tapeF ad ta ln (nI en) (nI x1) (nI x0) kd nu 0) (fs' := tapeF ad ta ln (nI en) (nI x1) (nI x0) 1 nu 0) X hK hI hP hS fX9_advance_44 fw_9_5 h_ta mL105_0 rfl rfl (Nat.le_of_ble_eq_true rfl) rfl dX9_advance_171 (fun H locs hP hS => ?_)
                  refine lv_aload_n hx hb dX9_advance_174 rfl (lv_at hl 0 rfl) ?_
                  refine lv_aload_n hx hb dX9_advance_175 rfl (lv_at hl 0 rfl) ?_
                  refine q_rdVe (As := []) (rest := [.ref (ad ta)]) (c_X9_findWord l D cB cI cJ ad n (va_up ML105 ta (.inr (9, tapeF ad ta ln (nI en) (nI x1) (nI x0) 1 nu 0))) ta en x1 x0 0 ln 1 nu bf h_ta h_ta_1 (va_up_self ML105 ta (.inr (9, tapeF ad ta ln (nI en) (nI x1) (nI x0) 1 nu 0))) ((va_up_ne ML105 (.inr (9, tapeF ad ta ln (nI en) (nI x1) (nI x0) 1 nu 0)) (show ta + 1 ≠ ta by omega)).trans ((fL105 (ta + 1) (by omega)).trans m_ta_1)) (by first | assumption | omega | exact vp_in_nI (by omega) (by decide) | exact vp_in_iff.mpr (by decide)) (by first | assumption | omega | exact vp_in_nI (by omega) (by decide) | exact vp_in_iff.mpr (by decide))) X hK hP hS hl.1 rfl gX9_advance_X9_findWord yd_X9_findWord ⟨Nat.le_of_ble_eq_true rfl, Nat.le_of_ble_eq_true rfl⟩ h_ta (va_up_self ML105 ta (.inr (9, tapeF ad ta ln (nI en) (nI x1) (nI x0) 1 nu 0))) (ci := 9) rfl rfl (Nat.le_of_ble_eq_true rfl) ⟨Nat.zero_le _, Nat.zero_le _⟩ dX9_advance_176 ?_
                  refine q_put (fs := tapeF ad ta ln (nI en) (nI x1) (nI x0) 1 nu 0) (fs' := tapeF ad ta ln (nI en) (nI x1) (nI x0) 1 nu (fwS (nI en) bf (nI x0) (nI x1 - nI x0) 20 0)) X hK hI hP hS fX9_advance_21 fw_9_7 h_ta (va_up_self ML105 ta (.inr (9, tapeF ad ta ln (nI en) (nI x1) (nI x0) 1 nu 0))) rfl rfl (Nat.le_of_ble_eq_true rfl) rfl dX9_advance_179 (fun H locs hP hS => ?_)
                  refine lv_goto (tgt := 221) hx hb dX9_advance_182 (by decide) ?_
                  exact q_wvret X hr hlocks hP hS ⟨(by refine (va_up_self (va_up ML105 ta (.inr (9, tapeF ad ta ln (nI en) (nI x1) (nI x0) 1 nu 0))) ta (.inr (9, tapeF ad ta ln (nI en) (nI x1) (nI x0) 1 nu (fwS (nI en) bf (nI x0) (nI x1 - nI x0) 20 0)))).trans ?_; have hN : avN en bf x0 = x1 := (by rw [avN, if_neg c_76]; exact hm1); rw [hm0, avK, avU, avW, hN, if_neg c_76, if_neg c_76, if_neg c_76]; first | (rw [if_neg c_166, if_neg c_166, if_neg c_166]; done) | (rw [if_pos c_166, if_pos c_166, if_pos c_166, if_neg c_186, if_neg c_186]; done) | (rw [if_pos c_166, if_pos c_166, if_pos c_166, if_pos c_186, if_pos c_186, if_pos c_210]; done) | (rw [if_pos c_166, if_pos c_166, if_pos c_166, if_pos c_186, if_pos c_186, if_neg c_210]; done)), (fun q n0 => ((va_up_ne _ _ n0).trans ((va_up_ne _ _ n0).trans (fL105 q n0))))⟩ dX9_advance_221
              · skip
                refine lv_iload_n hx hb dX9_advance_116 rfl (lv_at hl 2 rfl) ?_
                refine lv_if_eq (tgt := 134) hx hb dX9_advance_117 (by decide) (fun c_117 => ?_) (fun c_117 => ?_)
                · skip
                  refine lv_iload_n hx hb dX9_advance_134 rfl (lv_at hl 3 rfl) ?_
                  refine lv_if_eq (tgt := 165) hx hb dX9_advance_135 (by decide) (fun c_135 => ?_) (fun c_135 => ?_)
                  · skip
                    have hm1 : rgS en bf (s_X9_isLetter (s_X9_byteAt (nI en) bf (nI x0))) (s_X9_isDigit (s_X9_byteAt (nI en) bf (nI x0))) 701 (x0 + 1) = x1 := by rw [← hs1]; obtain ⟨r8, hr8⟩ : ∃ r8, r7 = r8 + 1 := ⟨r7 - 1, by omega⟩; rw [hr8, rgS]; first | (rw [if_neg c_113, if_pos c_117, if_pos c_135]; done) | (rw [if_neg c_113, if_neg c_117, if_pos c_131, if_pos c_135]; done)
                    refine lv_iload_n hx hb dX9_advance_165 rfl (lv_at hl 2 rfl) ?_
                    refine lv_if_eq (tgt := 185) hx hb dX9_advance_166 (by decide) (fun c_166 => ?_) (fun c_166 => ?_)
                    · skip
                      refine lv_iload_n hx hb dX9_advance_185 rfl (lv_at hl 3 rfl) ?_
                      refine lv_if_eq (tgt := 205) hx hb dX9_advance_186 (by decide) (fun c_186 => ?_) (fun c_186 => ?_)
                      · skip
                        refine lv_aload_n hx hb dX9_advance_205 rfl (lv_at hl 0 rfl) ?_
                        refine lv_iload_n hx hb dX9_advance_206 rfl (lv_at hl 1 rfl) ?_
                        refine q_rdS (As := [.int (s_X9_byteAt (nI en) bf (nI x0))]) (rest := [.ref (ad ta)]) (c_X9_isSign l D cB cI cJ ad n ML105 (s_X9_byteAt (nI en) bf (nI x0))   ) X hK hP hS hl.1 rfl gX9_advance_X9_isSign yd_X9_isSign ⟨Nat.le_of_ble_eq_true rfl, Nat.le_of_ble_eq_true rfl⟩ rfl (Nat.le_of_ble_eq_true rfl) ⟨Nat.zero_le _, Nat.zero_le _⟩ dX9_advance_207 ?_
                        refine lv_if_eq (tgt := 217) hx hb dX9_advance_210 (by decide) (fun c_210 => ?_) (fun c_210 => ?_)
                        · skip
                          refine lv_iconst (v := 3) hx hb dX9_advance_217 (by decide) ?_
                          refine q_put (fs := tapeF ad ta ln (nI en) (nI x1) (nI x0) kd nu 0) (fs' := tapeF ad ta ln (nI en) (nI x1) (nI x0) 3 nu 0) X hK hI hP hS fX9_advance_44 fw_9_5 h_ta mL105_0 rfl rfl (Nat.le_of_ble_eq_true rfl) rfl dX9_advance_218 (fun H locs hP hS => ?_)
                          exact q_wvret X hr hlocks hP hS ⟨(by refine (va_up_self ML105 ta (.inr (9, tapeF ad ta ln (nI en) (nI x1) (nI x0) 3 nu 0))).trans ?_; have hN : avN en bf x0 = x1 := (by rw [avN, if_neg c_76]; exact hm1); rw [hm0, avK, avU, avW, hN, if_neg c_76, if_neg c_76, if_neg c_76]; first | (rw [if_neg c_166, if_neg c_166, if_neg c_166]; done) | (rw [if_pos c_166, if_pos c_166, if_pos c_166, if_neg c_186, if_neg c_186]; done) | (rw [if_pos c_166, if_pos c_166, if_pos c_166, if_pos c_186, if_pos c_186, if_pos c_210]; done) | (rw [if_pos c_166, if_pos c_166, if_pos c_166, if_pos c_186, if_pos c_186, if_neg c_210]; done)), (fun q n0 => ((va_up_ne _ _ n0).trans (fL105 q n0)))⟩ dX9_advance_221
                        · skip
                          refine lv_iload_n hx hb dX9_advance_213 rfl (lv_at hl 1 rfl) ?_
                          refine lv_goto (tgt := 218) hx hb dX9_advance_214 (by decide) ?_
                          refine q_put (fs := tapeF ad ta ln (nI en) (nI x1) (nI x0) kd nu 0) (fs' := tapeF ad ta ln (nI en) (nI x1) (nI x0) (s_X9_byteAt (nI en) bf (nI x0)) nu 0) X hK hI hP hS fX9_advance_44 fw_9_5 h_ta mL105_0 rfl rfl (Nat.le_of_ble_eq_true rfl) rfl dX9_advance_218 (fun H locs hP hS => ?_)
                          exact q_wvret X hr hlocks hP hS ⟨(by refine (va_up_self ML105 ta (.inr (9, tapeF ad ta ln (nI en) (nI x1) (nI x0) (s_X9_byteAt (nI en) bf (nI x0)) nu 0))).trans ?_; have hN : avN en bf x0 = x1 := (by rw [avN, if_neg c_76]; exact hm1); rw [hm0, avK, avU, avW, hN, if_neg c_76, if_neg c_76, if_neg c_76]; first | (rw [if_neg c_166, if_neg c_166, if_neg c_166]; done) | (rw [if_pos c_166, if_pos c_166, if_pos c_166, if_neg c_186, if_neg c_186]; done) | (rw [if_pos c_166, if_pos c_166, if_pos c_166, if_pos c_186, if_pos c_186, if_pos c_210]; done) | (rw [if_pos c_166, if_pos c_166, if_pos c_166, if_pos c_186, if_pos c_186, if_neg c_210]; done)), (fun q n0 => ((va_up_ne _ _ n0).trans (fL105 q n0)))⟩ dX9_advance_221
                      · skip
                        refine lv_aload_n hx hb dX9_advance_189 rfl (lv_at hl 0 rfl) ?_
                        refine lv_iconst (v := 2) hx hb dX9_advance_190 (by decide) ?_
                        refine q_put (fs := tapeF ad ta ln (nI en) (nI x1) (nI x0) kd nu 0) (fs' := tapeF ad ta ln (nI en) (nI x1) (nI x0) 2 nu 0) X hK hI hP hS fX9_advance_44 fw_9_5 h_ta mL105_0 rfl rfl (Nat.le_of_ble_eq_true rfl) rfl dX9_advance_191 (fun H locs hP hS => ?_)
                        refine lv_aload_n hx hb dX9_advance_194 rfl (lv_at hl 0 rfl) ?_
                        refine lv_aload_n hx hb dX9_advance_195 rfl (lv_at hl 0 rfl) ?_
                        refine q_rdV (As := []) (rest := [.ref (ad ta)]) (c_X9_findNumber l D cB cI cJ ad n (va_up ML105 ta (.inr (9, tapeF ad ta ln (nI en) (nI x1) (nI x0) 2 nu 0))) ta en x1 x0 0 ln 2 nu bf h_ta h_ta_1 (va_up_self ML105 ta (.inr (9, tapeF ad ta ln (nI en) (nI x1) (nI x0) 2 nu 0))) ((va_up_ne ML105 (.inr (9, tapeF ad ta ln (nI en) (nI x1) (nI x0) 2 nu 0)) (show ta + 1 ≠ ta by omega)).trans ((fL105 (ta + 1) (by omega)).trans m_ta_1)) (by first | assumption | omega | exact vp_in_nI (by omega) (by decide) | exact vp_in_iff.mpr (by decide)) (by first | assumption | omega | exact vp_in_nI (by omega) (by decide) | exact vp_in_iff.mpr (by decide))) X hK hP hS hl.1 rfl gX9_advance_X9_findNumber yd_X9_findNumber ⟨Nat.le_of_ble_eq_true rfl, Nat.le_of_ble_eq_true rfl⟩ h_ta (va_up_self ML105 ta (.inr (9, tapeF ad ta ln (nI en) (nI x1) (nI x0) 2 nu 0))) (ci := 9) rfl rfl (Nat.le_of_ble_eq_true rfl) ⟨Nat.zero_le _, Nat.zero_le _⟩ dX9_advance_196 ?_
                        refine q_put (fs := tapeF ad ta ln (nI en) (nI x1) (nI x0) 2 nu 0) (fs' := tapeF ad ta ln (nI en) (nI x1) (nI x0) 2 (fnS (nI en) bf x0 x1) 0) X hK hI hP hS fX9_advance_62 fw_9_6 h_ta (va_up_self ML105 ta (.inr (9, tapeF ad ta ln (nI en) (nI x1) (nI x0) 2 nu 0))) rfl rfl (Nat.le_of_ble_eq_true rfl) rfl dX9_advance_199 (fun H locs hP hS => ?_)
                        refine lv_goto (tgt := 221) hx hb dX9_advance_202 (by decide) ?_
                        exact q_wvret X hr hlocks hP hS ⟨(by refine (va_up_self (va_up ML105 ta (.inr (9, tapeF ad ta ln (nI en) (nI x1) (nI x0) 2 nu 0))) ta (.inr (9, tapeF ad ta ln (nI en) (nI x1) (nI x0) 2 (fnS (nI en) bf x0 x1) 0))).trans ?_; have hN : avN en bf x0 = x1 := (by rw [avN, if_neg c_76]; exact hm1); rw [hm0, avK, avU, avW, hN, if_neg c_76, if_neg c_76, if_neg c_76]; first | (rw [if_neg c_166, if_neg c_166, if_neg c_166]; done) | (rw [if_pos c_166, if_pos c_166, if_pos c_166, if_neg c_186, if_neg c_186]; done) | (rw [if_pos c_166, if_pos c_166, if_pos c_166, if_pos c_186, if_pos c_186, if_pos c_210]; done) | (rw [if_pos c_166, if_pos c_166, if_pos c_166, if_pos c_186, if_pos c_186, if_neg c_210]; done)), (fun q n0 => ((va_up_ne _ _ n0).trans ((va_up_ne _ _ n0).trans (fL105 q n0))))⟩ dX9_advance_221
                    · skip
                      refine lv_aload_n hx hb dX9_advance_169 rfl (lv_at hl 0 rfl) ?_
                      refine lv_iconst (v := 1) hx hb dX9_advance_170 (by decide) ?_
                      refine q_put (fs := tapeF ad ta ln (nI en) (nI x1) (nI x0) kd nu 0) (fs' := tapeF ad ta ln (nI en) (nI x1) (nI x0) 1 nu 0) X hK hI hP hS fX9_advance_44 fw_9_5 h_ta mL105_0 rfl rfl (Nat.le_of_ble_eq_true rfl) rfl dX9_advance_171 (fun H locs hP hS => ?_)
                      refine lv_aload_n hx hb dX9_advance_174 rfl (lv_at hl 0 rfl) ?_
                      refine lv_aload_n hx hb dX9_advance_175 rfl (lv_at hl 0 rfl) ?_
                      refine q_rdVe (As := []) (rest := [.ref (ad ta)]) (c_X9_findWord l D cB cI cJ ad n (va_up ML105 ta (.inr (9, tapeF ad ta ln (nI en) (nI x1) (nI x0) 1 nu 0))) ta en x1 x0 0 ln 1 nu bf h_ta h_ta_1 (va_up_self ML105 ta (.inr (9, tapeF ad ta ln (nI en) (nI x1) (nI x0) 1 nu 0))) ((va_up_ne ML105 (.inr (9, tapeF ad ta ln (nI en) (nI x1) (nI x0) 1 nu 0)) (show ta + 1 ≠ ta by omega)).trans ((fL105 (ta + 1) (by omega)).trans m_ta_1)) (by first | assumption | omega | exact vp_in_nI (by omega) (by decide) | exact vp_in_iff.mpr (by decide)) (by first | assumption | omega | exact vp_in_nI (by omega) (by decide) | exact vp_in_iff.mpr (by decide))) X hK hP hS hl.1 rfl gX9_advance_X9_findWord yd_X9_findWord ⟨Nat.le_of_ble_eq_true rfl, Nat.le_of_ble_eq_true rfl⟩ h_ta (va_up_self ML105 ta (.inr (9, tapeF ad ta ln (nI en) (nI x1) (nI x0) 1 nu 0))) (ci := 9) rfl rfl (Nat.le_of_ble_eq_true rfl) ⟨Nat.zero_le _, Nat.zero_le _⟩ dX9_advance_176 ?_
                      refine q_put (fs := tapeF ad ta ln (nI en) (nI x1) (nI x0) 1 nu 0) (fs' := tapeF ad ta ln (nI en) (nI x1) (nI x0) 1 nu (fwS (nI en) bf (nI x0) (nI x1 - nI x0) 20 0)) X hK hI hP hS fX9_advance_21 fw_9_7 h_ta (va_up_self ML105 ta (.inr (9, tapeF ad ta ln (nI en) (nI x1) (nI x0) 1 nu 0))) rfl rfl (Nat.le_of_ble_eq_true rfl) rfl dX9_advance_179 (fun H locs hP hS => ?_)
                      refine lv_goto (tgt := 221) hx hb dX9_advance_182 (by decide) ?_
                      exact q_wvret X hr hlocks hP hS ⟨(by refine (va_up_self (va_up ML105 ta (.inr (9, tapeF ad ta ln (nI en) (nI x1) (nI x0) 1 nu 0))) ta (.inr (9, tapeF ad ta ln (nI en) (nI x1) (nI x0) 1 nu (fwS (nI en) bf (nI x0) (nI x1 - nI x0) 20 0)))).trans ?_; have hN : avN en bf x0 = x1 := (by rw [avN, if_neg c_76]; exact hm1); rw [hm0, avK, avU, avW, hN, if_neg c_76, if_neg c_76, if_neg c_76]; first | (rw [if_neg c_166, if_neg c_166, if_neg c_166]; done) | (rw [if_pos c_166, if_pos c_166, if_pos c_166, if_neg c_186, if_neg c_186]; done) | (rw [if_pos c_166, if_pos c_166, if_pos c_166, if_pos c_186, if_pos c_186, if_pos c_210]; done) | (rw [if_pos c_166, if_pos c_166, if_pos c_166, if_pos c_186, if_pos c_186, if_neg c_210]; done)), (fun q n0 => ((va_up_ne _ _ n0).trans ((va_up_ne _ _ n0).trans (fL105 q n0))))⟩ dX9_advance_221
                  · skip
                    refine lv_aload_n hx hb dX9_advance_138 rfl (lv_at hl 0 rfl) ?_
                    refine lv_aload_n hx hb dX9_advance_139 rfl (lv_at hl 0 rfl) ?_
                    refine q_get (v := .int (nI x1)) (fs := tapeF ad ta ln (nI en) (nI x1) (nI x0) kd nu 0) X hK hP fX9_advance_31 h_ta mL105_0 rfl dX9_advance_140 ?_
                    refine q_rdV (As := [.int (nI x1)]) (rest := []) (c_X9_byteAt l D cB cI cJ ad n ML105 ta 0 ln (nI en) (nI x1) (nI x0) kd nu bf (nI x1) h_ta h_ta_1 mL105_0 ((fL105 (ta + 1) (by omega)).trans m_ta_1) ) X hK hP hS hl.1 rfl gX9_advance_X9_byteAt yd_X9_byteAt ⟨Nat.le_of_ble_eq_true rfl, Nat.le_of_ble_eq_true rfl⟩ h_ta mL105_0 (ci := 9) rfl rfl (Nat.le_of_ble_eq_true rfl) ⟨Nat.zero_le _, Nat.zero_le _⟩ dX9_advance_143 ?_
                    refine q_rdS (As := [.int (s_X9_byteAt (nI en) bf (nI x1))]) (rest := []) (c_X9_isDigit l D cB cI cJ ad n ML105 (s_X9_byteAt (nI en) bf (nI x1))   ) X hK hP hS hl.1 rfl gX9_advance_X9_isDigit yd_X9_isDigit ⟨Nat.le_of_ble_eq_true rfl, Nat.le_of_ble_eq_true rfl⟩ rfl (Nat.le_of_ble_eq_true rfl) ⟨Nat.zero_le _, Nat.zero_le _⟩ dX9_advance_146 ?_
                    refine lv_if_eq (tgt := 165) hx hb dX9_advance_149 (by decide) (fun c_149 => ?_) (fun c_149 => ?_)
                    · skip
                      have hm1 : rgS en bf (s_X9_isLetter (s_X9_byteAt (nI en) bf (nI x0))) (s_X9_isDigit (s_X9_byteAt (nI en) bf (nI x0))) 701 (x0 + 1) = x1 := by rw [← hs1]; obtain ⟨r8, hr8⟩ : ∃ r8, r7 = r8 + 1 := ⟨r7 - 1, by omega⟩; rw [hr8, rgS]; first | (rw [if_neg c_113, if_pos c_117, if_neg c_135, if_pos c_149]; done) | (rw [if_neg c_113, if_neg c_117, if_pos c_131, if_neg c_135, if_pos c_149]; done)
                      refine lv_iload_n hx hb dX9_advance_165 rfl (lv_at hl 2 rfl) ?_
                      refine lv_if_eq (tgt := 185) hx hb dX9_advance_166 (by decide) (fun c_166 => ?_) (fun c_166 => ?_)
                      · skip
                        refine lv_iload_n hx hb dX9_advance_185 rfl (lv_at hl 3 rfl) ?_
                        refine lv_if_eq (tgt := 205) hx hb dX9_advance_186 (by decide) (fun c_186 => ?_) (fun c_186 => ?_)
                        · skip
                          refine lv_aload_n hx hb dX9_advance_205 rfl (lv_at hl 0 rfl) ?_
                          refine lv_iload_n hx hb dX9_advance_206 rfl (lv_at hl 1 rfl) ?_
                          refine q_rdS (As := [.int (s_X9_byteAt (nI en) bf (nI x0))]) (rest := [.ref (ad ta)]) (c_X9_isSign l D cB cI cJ ad n ML105 (s_X9_byteAt (nI en) bf (nI x0))   ) X hK hP hS hl.1 rfl gX9_advance_X9_isSign yd_X9_isSign ⟨Nat.le_of_ble_eq_true rfl, Nat.le_of_ble_eq_true rfl⟩ rfl (Nat.le_of_ble_eq_true rfl) ⟨Nat.zero_le _, Nat.zero_le _⟩ dX9_advance_207 ?_
                          refine lv_if_eq (tgt := 217) hx hb dX9_advance_210 (by decide) (fun c_210 => ?_) (fun c_210 => ?_)
                          · skip
                            refine lv_iconst (v := 3) hx hb dX9_advance_217 (by decide) ?_
                            refine q_put (fs := tapeF ad ta ln (nI en) (nI x1) (nI x0) kd nu 0) (fs' := tapeF ad ta ln (nI en) (nI x1) (nI x0) 3 nu 0) X hK hI hP hS fX9_advance_44 fw_9_5 h_ta mL105_0 rfl rfl (Nat.le_of_ble_eq_true rfl) rfl dX9_advance_218 (fun H locs hP hS => ?_)
                            exact q_wvret X hr hlocks hP hS ⟨(by refine (va_up_self ML105 ta (.inr (9, tapeF ad ta ln (nI en) (nI x1) (nI x0) 3 nu 0))).trans ?_; have hN : avN en bf x0 = x1 := (by rw [avN, if_neg c_76]; exact hm1); rw [hm0, avK, avU, avW, hN, if_neg c_76, if_neg c_76, if_neg c_76]; first | (rw [if_neg c_166, if_neg c_166, if_neg c_166]; done) | (rw [if_pos c_166, if_pos c_166, if_pos c_166, if_neg c_186, if_neg c_186]; done) | (rw [if_pos c_166, if_pos c_166, if_pos c_166, if_pos c_186, if_pos c_186, if_pos c_210]; done) | (rw [if_pos c_166, if_pos c_166, if_pos c_166, if_pos c_186, if_pos c_186, if_neg c_210]; done)), (fun q n0 => ((va_up_ne _ _ n0).trans (fL105 q n0)))⟩ dX9_advance_221
                          · skip
                            refine lv_iload_n hx hb dX9_advance_213 rfl (lv_at hl 1 rfl) ?_
                            refine lv_goto (tgt := 218) hx hb dX9_advance_214 (by decide) ?_
                            refine q_put (fs := tapeF ad ta ln (nI en) (nI x1) (nI x0) kd nu 0) (fs' := tapeF ad ta ln (nI en) (nI x1) (nI x0) (s_X9_byteAt (nI en) bf (nI x0)) nu 0) X hK hI hP hS fX9_advance_44 fw_9_5 h_ta mL105_0 rfl rfl (Nat.le_of_ble_eq_true rfl) rfl dX9_advance_218 (fun H locs hP hS => ?_)
                            exact q_wvret X hr hlocks hP hS ⟨(by refine (va_up_self ML105 ta (.inr (9, tapeF ad ta ln (nI en) (nI x1) (nI x0) (s_X9_byteAt (nI en) bf (nI x0)) nu 0))).trans ?_; have hN : avN en bf x0 = x1 := (by rw [avN, if_neg c_76]; exact hm1); rw [hm0, avK, avU, avW, hN, if_neg c_76, if_neg c_76, if_neg c_76]; first | (rw [if_neg c_166, if_neg c_166, if_neg c_166]; done) | (rw [if_pos c_166, if_pos c_166, if_pos c_166, if_neg c_186, if_neg c_186]; done) | (rw [if_pos c_166, if_pos c_166, if_pos c_166, if_pos c_186, if_pos c_186, if_pos c_210]; done) | (rw [if_pos c_166, if_pos c_166, if_pos c_166, if_pos c_186, if_pos c_186, if_neg c_210]; done)), (fun q n0 => ((va_up_ne _ _ n0).trans (fL105 q n0)))⟩ dX9_advance_221
                        · skip
                          refine lv_aload_n hx hb dX9_advance_189 rfl (lv_at hl 0 rfl) ?_
                          refine lv_iconst (v := 2) hx hb dX9_advance_190 (by decide) ?_
                          refine q_put (fs := tapeF ad ta ln (nI en) (nI x1) (nI x0) kd nu 0) (fs' := tapeF ad ta ln (nI en) (nI x1) (nI x0) 2 nu 0) X hK hI hP hS fX9_advance_44 fw_9_5 h_ta mL105_0 rfl rfl (Nat.le_of_ble_eq_true rfl) rfl dX9_advance_191 (fun H locs hP hS => ?_)
                          refine lv_aload_n hx hb dX9_advance_194 rfl (lv_at hl 0 rfl) ?_
                          refine lv_aload_n hx hb dX9_advance_195 rfl (lv_at hl 0 rfl) ?_
                          refine q_rdV (As := []) (rest := [.ref (ad ta)]) (c_X9_findNumber l D cB cI cJ ad n (va_up ML105 ta (.inr (9, tapeF ad ta ln (nI en) (nI x1) (nI x0) 2 nu 0))) ta en x1 x0 0 ln 2 nu bf h_ta h_ta_1 (va_up_self ML105 ta (.inr (9, tapeF ad ta ln (nI en) (nI x1) (nI x0) 2 nu 0))) ((va_up_ne ML105 (.inr (9, tapeF ad ta ln (nI en) (nI x1) (nI x0) 2 nu 0)) (show ta + 1 ≠ ta by omega)).trans ((fL105 (ta + 1) (by omega)).trans m_ta_1)) (by first | assumption | omega | exact vp_in_nI (by omega) (by decide) | exact vp_in_iff.mpr (by decide)) (by first | assumption | omega | exact vp_in_nI (by omega) (by decide) | exact vp_in_iff.mpr (by decide))) X hK hP hS hl.1 rfl gX9_advance_X9_findNumber yd_X9_findNumber ⟨Nat.le_of_ble_eq_true rfl, Nat.le_of_ble_eq_true rfl⟩ h_ta (va_up_self ML105 ta (.inr (9, tapeF ad ta ln (nI en) (nI x1) (nI x0) 2 nu 0))) (ci := 9) rfl rfl (Nat.le_of_ble_eq_true rfl) ⟨Nat.zero_le _, Nat.zero_le _⟩ dX9_advance_196 ?_
                          refine q_put (fs := tapeF ad ta ln (nI en) (nI x1) (nI x0) 2 nu 0) (fs' := tapeF ad ta ln (nI en) (nI x1) (nI x0) 2 (fnS (nI en) bf x0 x1) 0) X hK hI hP hS fX9_advance_62 fw_9_6 h_ta (va_up_self ML105 ta (.inr (9, tapeF ad ta ln (nI en) (nI x1) (nI x0) 2 nu 0))) rfl rfl (Nat.le_of_ble_eq_true rfl) rfl dX9_advance_199 (fun H locs hP hS => ?_)
                          refine lv_goto (tgt := 221) hx hb dX9_advance_202 (by decide) ?_
                          exact q_wvret X hr hlocks hP hS ⟨(by refine (va_up_self (va_up ML105 ta (.inr (9, tapeF ad ta ln (nI en) (nI x1) (nI x0) 2 nu 0))) ta (.inr (9, tapeF ad ta ln (nI en) (nI x1) (nI x0) 2 (fnS (nI en) bf x0 x1) 0))).trans ?_; have hN : avN en bf x0 = x1 := (by rw [avN, if_neg c_76]; exact hm1); rw [hm0, avK, avU, avW, hN, if_neg c_76, if_neg c_76, if_neg c_76]; first | (rw [if_neg c_166, if_neg c_166, if_neg c_166]; done) | (rw [if_pos c_166, if_pos c_166, if_pos c_166, if_neg c_186, if_neg c_186]; done) | (rw [if_pos c_166, if_pos c_166, if_pos c_166, if_pos c_186, if_pos c_186, if_pos c_210]; done) | (rw [if_pos c_166, if_pos c_166, if_pos c_166, if_pos c_186, if_pos c_186, if_neg c_210]; done)), (fun q n0 => ((va_up_ne _ _ n0).trans ((va_up_ne _ _ n0).trans (fL105 q n0))))⟩ dX9_advance_221
                      · skip
                        refine lv_aload_n hx hb dX9_advance_169 rfl (lv_at hl 0 rfl) ?_
                        refine lv_iconst (v := 1) hx hb dX9_advance_170 (by decide) ?_
                        refine q_put (fs := tapeF ad ta ln (nI en) (nI x1) (nI x0) kd nu 0) (fs' := tapeF ad ta ln (nI en) (nI x1) (nI x0) 1 nu 0) X hK hI hP hS fX9_advance_44 fw_9_5 h_ta mL105_0 rfl rfl (Nat.le_of_ble_eq_true rfl) rfl dX9_advance_171 (fun H locs hP hS => ?_)
                        refine lv_aload_n hx hb dX9_advance_174 rfl (lv_at hl 0 rfl) ?_
                        refine lv_aload_n hx hb dX9_advance_175 rfl (lv_at hl 0 rfl) ?_
                        refine q_rdVe (As := []) (rest := [.ref (ad ta)]) (c_X9_findWord l D cB cI cJ ad n (va_up ML105 ta (.inr (9, tapeF ad ta ln (nI en) (nI x1) (nI x0) 1 nu 0))) ta en x1 x0 0 ln 1 nu bf h_ta h_ta_1 (va_up_self ML105 ta (.inr (9, tapeF ad ta ln (nI en) (nI x1) (nI x0) 1 nu 0))) ((va_up_ne ML105 (.inr (9, tapeF ad ta ln (nI en) (nI x1) (nI x0) 1 nu 0)) (show ta + 1 ≠ ta by omega)).trans ((fL105 (ta + 1) (by omega)).trans m_ta_1)) (by first | assumption | omega | exact vp_in_nI (by omega) (by decide) | exact vp_in_iff.mpr (by decide)) (by first | assumption | omega | exact vp_in_nI (by omega) (by decide) | exact vp_in_iff.mpr (by decide))) X hK hP hS hl.1 rfl gX9_advance_X9_findWord yd_X9_findWord ⟨Nat.le_of_ble_eq_true rfl, Nat.le_of_ble_eq_true rfl⟩ h_ta (va_up_self ML105 ta (.inr (9, tapeF ad ta ln (nI en) (nI x1) (nI x0) 1 nu 0))) (ci := 9) rfl rfl (Nat.le_of_ble_eq_true rfl) ⟨Nat.zero_le _, Nat.zero_le _⟩ dX9_advance_176 ?_
                        refine q_put (fs := tapeF ad ta ln (nI en) (nI x1) (nI x0) 1 nu 0) (fs' := tapeF ad ta ln (nI en) (nI x1) (nI x0) 1 nu (fwS (nI en) bf (nI x0) (nI x1 - nI x0) 20 0)) X hK hI hP hS fX9_advance_21 fw_9_7 h_ta (va_up_self ML105 ta (.inr (9, tapeF ad ta ln (nI en) (nI x1) (nI x0) 1 nu 0))) rfl rfl (Nat.le_of_ble_eq_true rfl) rfl dX9_advance_179 (fun H locs hP hS => ?_)
                        refine lv_goto (tgt := 221) hx hb dX9_advance_182 (by decide) ?_
                        exact q_wvret X hr hlocks hP hS ⟨(by refine (va_up_self (va_up ML105 ta (.inr (9, tapeF ad ta ln (nI en) (nI x1) (nI x0) 1 nu 0))) ta (.inr (9, tapeF ad ta ln (nI en) (nI x1) (nI x0) 1 nu (fwS (nI en) bf (nI x0) (nI x1 - nI x0) 20 0)))).trans ?_; have hN : avN en bf x0 = x1 := (by rw [avN, if_neg c_76]; exact hm1); rw [hm0, avK, avU, avW, hN, if_neg c_76, if_neg c_76, if_neg c_76]; first | (rw [if_neg c_166, if_neg c_166, if_neg c_166]; done) | (rw [if_pos c_166, if_pos c_166, if_pos c_166, if_neg c_186, if_neg c_186]; done) | (rw [if_pos c_166, if_pos c_166, if_pos c_166, if_pos c_186, if_pos c_186, if_pos c_210]; done) | (rw [if_pos c_166, if_pos c_166, if_pos c_166, if_pos c_186, if_pos c_186, if_neg c_210]; done)), (fun q n0 => ((va_up_ne _ _ n0).trans ((va_up_ne _ _ n0).trans (fL105 q n0))))⟩ dX9_advance_221
                    · skip
                      refine lv_aload_n hx hb dX9_advance_152 rfl (lv_at hl 0 rfl) ?_
                      refine lv_dup hx hb dX9_advance_153 rfl ?_
                      refine q_get (v := .int (nI x1)) (fs := tapeF ad ta ln (nI en) (nI x1) (nI x0) kd nu 0) X hK hP fX9_advance_31 h_ta mL105_0 rfl dX9_advance_154 ?_
                      refine lv_iconst (v := 1) hx hb dX9_advance_157 (by decide) ?_
                      refine lv_iadd hx hb dX9_advance_158 ?_
                      refine q_put (fs := tapeF ad ta ln (nI en) (nI x1) (nI x0) kd nu 0) (fs' := tapeF ad ta ln (nI en) ((nI x1) + 1) (nI x0) kd nu 0) X hK hI hP hS fX9_advance_31 fw_9_3 h_ta mL105_0 rfl rfl (Nat.le_of_ble_eq_true rfl) rfl dX9_advance_159 (fun H locs hP hS => ?_)
                      refine lv_goto (tgt := 105) hx hb dX9_advance_162 (by decide) ?_
                      exact ih_105 (x1 + 1) (r7 - 1) (by have := lt_of_nlt c_113 (by omega) hx1; omega) (by have := lt_of_nlt c_113 (by omega) hx1; omega) (by omega) (by omega) (by rw [← hs1]; obtain ⟨r8, hr8⟩ : ∃ r8, r7 = r8 + 1 := ⟨r7 - 1, by omega⟩; rw [hr8, show r8 + 1 - 1 = r8 by omega, rgS]; first | (rw [if_neg c_113, if_neg c_117, if_neg c_131]; done) | (rw [if_neg c_113, if_neg c_117, if_pos c_131, if_neg c_135, if_neg c_149]; done) | (rw [if_neg c_113, if_pos c_117, if_neg c_135, if_neg c_149]; done)) _ _ _ (by refine (va_up_self ML105 ta (.inr (9, tapeF ad ta ln (nI en) ((nI x1) + 1) (nI x0) kd nu 0))).trans ?_; rw [nI_succ]) (fun q n0 => ((va_up_ne _ _ n0).trans (fL105 q n0))) hP hS ls (lv_sub hl [0, 1, 2, 3] rfl)
                · skip
                  refine lv_aload_n hx hb dX9_advance_120 rfl (lv_at hl 0 rfl) ?_
                  refine lv_aload_n hx hb dX9_advance_121 rfl (lv_at hl 0 rfl) ?_
                  refine q_get (v := .int (nI x1)) (fs := tapeF ad ta ln (nI en) (nI x1) (nI x0) kd nu 0) X hK hP fX9_advance_31 h_ta mL105_0 rfl dX9_advance_122 ?_
                  refine q_rdV (As := [.int (nI x1)]) (rest := []) (c_X9_byteAt l D cB cI cJ ad n ML105 ta 0 ln (nI en) (nI x1) (nI x0) kd nu bf (nI x1) h_ta h_ta_1 mL105_0 ((fL105 (ta + 1) (by omega)).trans m_ta_1) ) X hK hP hS hl.1 rfl gX9_advance_X9_byteAt yd_X9_byteAt ⟨Nat.le_of_ble_eq_true rfl, Nat.le_of_ble_eq_true rfl⟩ h_ta mL105_0 (ci := 9) rfl rfl (Nat.le_of_ble_eq_true rfl) ⟨Nat.zero_le _, Nat.zero_le _⟩ dX9_advance_125 ?_
                  refine q_rdS (As := [.int (s_X9_byteAt (nI en) bf (nI x1))]) (rest := []) (c_X9_isLetter l D cB cI cJ ad n ML105 (s_X9_byteAt (nI en) bf (nI x1))   ) X hK hP hS hl.1 rfl gX9_advance_X9_isLetter yd_X9_isLetter ⟨Nat.le_of_ble_eq_true rfl, Nat.le_of_ble_eq_true rfl⟩ rfl (Nat.le_of_ble_eq_true rfl) ⟨Nat.zero_le _, Nat.zero_le _⟩ dX9_advance_128 ?_
                  refine lv_if_ne (tgt := 152) hx hb dX9_advance_131 (by decide) (fun c_131 => ?_) (fun c_131 => ?_)
                  · skip
                    refine lv_aload_n hx hb dX9_advance_152 rfl (lv_at hl 0 rfl) ?_
                    refine lv_dup hx hb dX9_advance_153 rfl ?_
                    refine q_get (v := .int (nI x1)) (fs := tapeF ad ta ln (nI en) (nI x1) (nI x0) kd nu 0) X hK hP fX9_advance_31 h_ta mL105_0 rfl dX9_advance_154 ?_
                    refine lv_iconst (v := 1) hx hb dX9_advance_157 (by decide) ?_
                    refine lv_iadd hx hb dX9_advance_158 ?_
                    refine q_put (fs := tapeF ad ta ln (nI en) (nI x1) (nI x0) kd nu 0) (fs' := tapeF ad ta ln (nI en) ((nI x1) + 1) (nI x0) kd nu 0) X hK hI hP hS fX9_advance_31 fw_9_3 h_ta mL105_0 rfl rfl (Nat.le_of_ble_eq_true rfl) rfl dX9_advance_159 (fun H locs hP hS => ?_)
                    refine lv_goto (tgt := 105) hx hb dX9_advance_162 (by decide) ?_
                    exact ih_105 (x1 + 1) (r7 - 1) (by have := lt_of_nlt c_113 (by omega) hx1; omega) (by have := lt_of_nlt c_113 (by omega) hx1; omega) (by omega) (by omega) (by rw [← hs1]; obtain ⟨r8, hr8⟩ : ∃ r8, r7 = r8 + 1 := ⟨r7 - 1, by omega⟩; rw [hr8, show r8 + 1 - 1 = r8 by omega, rgS]; first | (rw [if_neg c_113, if_neg c_117, if_neg c_131]; done) | (rw [if_neg c_113, if_neg c_117, if_pos c_131, if_neg c_135, if_neg c_149]; done) | (rw [if_neg c_113, if_pos c_117, if_neg c_135, if_neg c_149]; done)) _ _ _ (by refine (va_up_self ML105 ta (.inr (9, tapeF ad ta ln (nI en) ((nI x1) + 1) (nI x0) kd nu 0))).trans ?_; rw [nI_succ]) (fun q n0 => ((va_up_ne _ _ n0).trans (fL105 q n0))) hP hS ls (lv_sub hl [0, 1, 2, 3] rfl)
                  · skip
                    refine lv_iload_n hx hb dX9_advance_134 rfl (lv_at hl 3 rfl) ?_
                    refine lv_if_eq (tgt := 165) hx hb dX9_advance_135 (by decide) (fun c_135 => ?_) (fun c_135 => ?_)
                    · skip
                      have hm1 : rgS en bf (s_X9_isLetter (s_X9_byteAt (nI en) bf (nI x0))) (s_X9_isDigit (s_X9_byteAt (nI en) bf (nI x0))) 701 (x0 + 1) = x1 := by rw [← hs1]; obtain ⟨r8, hr8⟩ : ∃ r8, r7 = r8 + 1 := ⟨r7 - 1, by omega⟩; rw [hr8, rgS]; first | (rw [if_neg c_113, if_pos c_117, if_pos c_135]; done) | (rw [if_neg c_113, if_neg c_117, if_pos c_131, if_pos c_135]; done)
                      refine lv_iload_n hx hb dX9_advance_165 rfl (lv_at hl 2 rfl) ?_
                      refine lv_if_eq (tgt := 185) hx hb dX9_advance_166 (by decide) (fun c_166 => ?_) (fun c_166 => ?_)
                      · skip
                        refine lv_iload_n hx hb dX9_advance_185 rfl (lv_at hl 3 rfl) ?_
                        refine lv_if_eq (tgt := 205) hx hb dX9_advance_186 (by decide) (fun c_186 => ?_) (fun c_186 => ?_)
                        · skip
                          refine lv_aload_n hx hb dX9_advance_205 rfl (lv_at hl 0 rfl) ?_
                          refine lv_iload_n hx hb dX9_advance_206 rfl (lv_at hl 1 rfl) ?_
                          refine q_rdS (As := [.int (s_X9_byteAt (nI en) bf (nI x0))]) (rest := [.ref (ad ta)]) (c_X9_isSign l D cB cI cJ ad n ML105 (s_X9_byteAt (nI en) bf (nI x0))   ) X hK hP hS hl.1 rfl gX9_advance_X9_isSign yd_X9_isSign ⟨Nat.le_of_ble_eq_true rfl, Nat.le_of_ble_eq_true rfl⟩ rfl (Nat.le_of_ble_eq_true rfl) ⟨Nat.zero_le _, Nat.zero_le _⟩ dX9_advance_207 ?_
                          refine lv_if_eq (tgt := 217) hx hb dX9_advance_210 (by decide) (fun c_210 => ?_) (fun c_210 => ?_)
                          · skip
                            refine lv_iconst (v := 3) hx hb dX9_advance_217 (by decide) ?_
                            refine q_put (fs := tapeF ad ta ln (nI en) (nI x1) (nI x0) kd nu 0) (fs' := tapeF ad ta ln (nI en) (nI x1) (nI x0) 3 nu 0) X hK hI hP hS fX9_advance_44 fw_9_5 h_ta mL105_0 rfl rfl (Nat.le_of_ble_eq_true rfl) rfl dX9_advance_218 (fun H locs hP hS => ?_)
                            exact q_wvret X hr hlocks hP hS ⟨(by refine (va_up_self ML105 ta (.inr (9, tapeF ad ta ln (nI en) (nI x1) (nI x0) 3 nu 0))).trans ?_; have hN : avN en bf x0 = x1 := (by rw [avN, if_neg c_76]; exact hm1); rw [hm0, avK, avU, avW, hN, if_neg c_76, if_neg c_76, if_neg c_76]; first | (rw [if_neg c_166, if_neg c_166, if_neg c_166]; done) | (rw [if_pos c_166, if_pos c_166, if_pos c_166, if_neg c_186, if_neg c_186]; done) | (rw [if_pos c_166, if_pos c_166, if_pos c_166, if_pos c_186, if_pos c_186, if_pos c_210]; done) | (rw [if_pos c_166, if_pos c_166, if_pos c_166, if_pos c_186, if_pos c_186, if_neg c_210]; done)), (fun q n0 => ((va_up_ne _ _ n0).trans (fL105 q n0)))⟩ dX9_advance_221
                          · skip
                            refine lv_iload_n hx hb dX9_advance_213 rfl (lv_at hl 1 rfl) ?_
                            refine lv_goto (tgt := 218) hx hb dX9_advance_214 (by decide) ?_
                            refine q_put (fs := tapeF ad ta ln (nI en) (nI x1) (nI x0) kd nu 0) (fs' := tapeF ad ta ln (nI en) (nI x1) (nI x0) (s_X9_byteAt (nI en) bf (nI x0)) nu 0) X hK hI hP hS fX9_advance_44 fw_9_5 h_ta mL105_0 rfl rfl (Nat.le_of_ble_eq_true rfl) rfl dX9_advance_218 (fun H locs hP hS => ?_)
                            exact q_wvret X hr hlocks hP hS ⟨(by refine (va_up_self ML105 ta (.inr (9, tapeF ad ta ln (nI en) (nI x1) (nI x0) (s_X9_byteAt (nI en) bf (nI x0)) nu 0))).trans ?_; have hN : avN en bf x0 = x1 := (by rw [avN, if_neg c_76]; exact hm1); rw [hm0, avK, avU, avW, hN, if_neg c_76, if_neg c_76, if_neg c_76]; first | (rw [if_neg c_166, if_neg c_166, if_neg c_166]; done) | (rw [if_pos c_166, if_pos c_166, if_pos c_166, if_neg c_186, if_neg c_186]; done) | (rw [if_pos c_166, if_pos c_166, if_pos c_166, if_pos c_186, if_pos c_186, if_pos c_210]; done) | (rw [if_pos c_166, if_pos c_166, if_pos c_166, if_pos c_186, if_pos c_186, if_neg c_210]; done)), (fun q n0 => ((va_up_ne _ _ n0).trans (fL105 q n0)))⟩ dX9_advance_221
                        · skip
                          refine lv_aload_n hx hb dX9_advance_189 rfl (lv_at hl 0 rfl) ?_
                          refine lv_iconst (v := 2) hx hb dX9_advance_190 (by decide) ?_
                          refine q_put (fs := tapeF ad ta ln (nI en) (nI x1) (nI x0) kd nu 0) (fs' := tapeF ad ta ln (nI en) (nI x1) (nI x0) 2 nu 0) X hK hI hP hS fX9_advance_44 fw_9_5 h_ta mL105_0 rfl rfl (Nat.le_of_ble_eq_true rfl) rfl dX9_advance_191 (fun H locs hP hS => ?_)
                          refine lv_aload_n hx hb dX9_advance_194 rfl (lv_at hl 0 rfl) ?_
                          refine lv_aload_n hx hb dX9_advance_195 rfl (lv_at hl 0 rfl) ?_
                          refine q_rdV (As := []) (rest := [.ref (ad ta)]) (c_X9_findNumber l D cB cI cJ ad n (va_up ML105 ta (.inr (9, tapeF ad ta ln (nI en) (nI x1) (nI x0) 2 nu 0))) ta en x1 x0 0 ln 2 nu bf h_ta h_ta_1 (va_up_self ML105 ta (.inr (9, tapeF ad ta ln (nI en) (nI x1) (nI x0) 2 nu 0))) ((va_up_ne ML105 (.inr (9, tapeF ad ta ln (nI en) (nI x1) (nI x0) 2 nu 0)) (show ta + 1 ≠ ta by omega)).trans ((fL105 (ta + 1) (by omega)).trans m_ta_1)) (by first | assumption | omega | exact vp_in_nI (by omega) (by decide) | exact vp_in_iff.mpr (by decide)) (by first | assumption | omega | exact vp_in_nI (by omega) (by decide) | exact vp_in_iff.mpr (by decide))) X hK hP hS hl.1 rfl gX9_advance_X9_findNumber yd_X9_findNumber ⟨Nat.le_of_ble_eq_true rfl, Nat.le_of_ble_eq_true rfl⟩ h_ta (va_up_self ML105 ta (.inr (9, tapeF ad ta ln (nI en) (nI x1) (nI x0) 2 nu 0))) (ci := 9) rfl rfl (Nat.le_of_ble_eq_true rfl) ⟨Nat.zero_le _, Nat.zero_le _⟩ dX9_advance_196 ?_
                          refine q_put (fs := tapeF ad ta ln (nI en) (nI x1) (nI x0) 2 nu 0) (fs' := tapeF ad ta ln (nI en) (nI x1) (nI x0) 2 (fnS (nI en) bf x0 x1) 0) X hK hI hP hS fX9_advance_62 fw_9_6 h_ta (va_up_self ML105 ta (.inr (9, tapeF ad ta ln (nI en) (nI x1) (nI x0) 2 nu 0))) rfl rfl (Nat.le_of_ble_eq_true rfl) rfl dX9_advance_199 (fun H locs hP hS => ?_)
                          refine lv_goto (tgt := 221) hx hb dX9_advance_202 (by decide) ?_
                          exact q_wvret X hr hlocks hP hS ⟨(by refine (va_up_self (va_up ML105 ta (.inr (9, tapeF ad ta ln (nI en) (nI x1) (nI x0) 2 nu 0))) ta (.inr (9, tapeF ad ta ln (nI en) (nI x1) (nI x0) 2 (fnS (nI en) bf x0 x1) 0))).trans ?_; have hN : avN en bf x0 = x1 := (by rw [avN, if_neg c_76]; exact hm1); rw [hm0, avK, avU, avW, hN, if_neg c_76, if_neg c_76, if_neg c_76]; first | (rw [if_neg c_166, if_neg c_166, if_neg c_166]; done) | (rw [if_pos c_166, if_pos c_166, if_pos c_166, if_neg c_186, if_neg c_186]; done) | (rw [if_pos c_166, if_pos c_166, if_pos c_166, if_pos c_186, if_pos c_186, if_pos c_210]; done) | (rw [if_pos c_166, if_pos c_166, if_pos c_166, if_pos c_186, if_pos c_186, if_neg c_210]; done)), (fun q n0 => ((va_up_ne _ _ n0).trans ((va_up_ne _ _ n0).trans (fL105 q n0))))⟩ dX9_advance_221
                      · skip
                        refine lv_aload_n hx hb dX9_advance_169 rfl (lv_at hl 0 rfl) ?_
                        refine lv_iconst (v := 1) hx hb dX9_advance_170 (by decide) ?_
                        refine q_put (fs := tapeF ad ta ln (nI en) (nI x1) (nI x0) kd nu 0) (fs' := tapeF ad ta ln (nI en) (nI x1) (nI x0) 1 nu 0) X hK hI hP hS fX9_advance_44 fw_9_5 h_ta mL105_0 rfl rfl (Nat.le_of_ble_eq_true rfl) rfl dX9_advance_171 (fun H locs hP hS => ?_)
                        refine lv_aload_n hx hb dX9_advance_174 rfl (lv_at hl 0 rfl) ?_
                        refine lv_aload_n hx hb dX9_advance_175 rfl (lv_at hl 0 rfl) ?_
                        refine q_rdVe (As := []) (rest := [.ref (ad ta)]) (c_X9_findWord l D cB cI cJ ad n (va_up ML105 ta (.inr (9, tapeF ad ta ln (nI en) (nI x1) (nI x0) 1 nu 0))) ta en x1 x0 0 ln 1 nu bf h_ta h_ta_1 (va_up_self ML105 ta (.inr (9, tapeF ad ta ln (nI en) (nI x1) (nI x0) 1 nu 0))) ((va_up_ne ML105 (.inr (9, tapeF ad ta ln (nI en) (nI x1) (nI x0) 1 nu 0)) (show ta + 1 ≠ ta by omega)).trans ((fL105 (ta + 1) (by omega)).trans m_ta_1)) (by first | assumption | omega | exact vp_in_nI (by omega) (by decide) | exact vp_in_iff.mpr (by decide)) (by first | assumption | omega | exact vp_in_nI (by omega) (by decide) | exact vp_in_iff.mpr (by decide))) X hK hP hS hl.1 rfl gX9_advance_X9_findWord yd_X9_findWord ⟨Nat.le_of_ble_eq_true rfl, Nat.le_of_ble_eq_true rfl⟩ h_ta (va_up_self ML105 ta (.inr (9, tapeF ad ta ln (nI en) (nI x1) (nI x0) 1 nu 0))) (ci := 9) rfl rfl (Nat.le_of_ble_eq_true rfl) ⟨Nat.zero_le _, Nat.zero_le _⟩ dX9_advance_176 ?_
                        refine q_put (fs := tapeF ad ta ln (nI en) (nI x1) (nI x0) 1 nu 0) (fs' := tapeF ad ta ln (nI en) (nI x1) (nI x0) 1 nu (fwS (nI en) bf (nI x0) (nI x1 - nI x0) 20 0)) X hK hI hP hS fX9_advance_21 fw_9_7 h_ta (va_up_self ML105 ta (.inr (9, tapeF ad ta ln (nI en) (nI x1) (nI x0) 1 nu 0))) rfl rfl (Nat.le_of_ble_eq_true rfl) rfl dX9_advance_179 (fun H locs hP hS => ?_)
                        refine lv_goto (tgt := 221) hx hb dX9_advance_182 (by decide) ?_
                        exact q_wvret X hr hlocks hP hS ⟨(by refine (va_up_self (va_up ML105 ta (.inr (9, tapeF ad ta ln (nI en) (nI x1) (nI x0) 1 nu 0))) ta (.inr (9, tapeF ad ta ln (nI en) (nI x1) (nI x0) 1 nu (fwS (nI en) bf (nI x0) (nI x1 - nI x0) 20 0)))).trans ?_; have hN : avN en bf x0 = x1 := (by rw [avN, if_neg c_76]; exact hm1); rw [hm0, avK, avU, avW, hN, if_neg c_76, if_neg c_76, if_neg c_76]; first | (rw [if_neg c_166, if_neg c_166, if_neg c_166]; done) | (rw [if_pos c_166, if_pos c_166, if_pos c_166, if_neg c_186, if_neg c_186]; done) | (rw [if_pos c_166, if_pos c_166, if_pos c_166, if_pos c_186, if_pos c_186, if_pos c_210]; done) | (rw [if_pos c_166, if_pos c_166, if_pos c_166, if_pos c_186, if_pos c_186, if_neg c_210]; done)), (fun q n0 => ((va_up_ne _ _ n0).trans ((va_up_ne _ _ n0).trans (fL105 q n0))))⟩ dX9_advance_221
                    · skip
                      refine lv_aload_n hx hb dX9_advance_138 rfl (lv_at hl 0 rfl) ?_
                      refine lv_aload_n hx hb dX9_advance_139 rfl (lv_at hl 0 rfl) ?_
                      refine q_get (v := .int (nI x1)) (fs := tapeF ad ta ln (nI en) (nI x1) (nI x0) kd nu 0) X hK hP fX9_advance_31 h_ta mL105_0 rfl dX9_advance_140 ?_
                      refine q_rdV (As := [.int (nI x1)]) (rest := []) (c_X9_byteAt l D cB cI cJ ad n ML105 ta 0 ln (nI en) (nI x1) (nI x0) kd nu bf (nI x1) h_ta h_ta_1 mL105_0 ((fL105 (ta + 1) (by omega)).trans m_ta_1) ) X hK hP hS hl.1 rfl gX9_advance_X9_byteAt yd_X9_byteAt ⟨Nat.le_of_ble_eq_true rfl, Nat.le_of_ble_eq_true rfl⟩ h_ta mL105_0 (ci := 9) rfl rfl (Nat.le_of_ble_eq_true rfl) ⟨Nat.zero_le _, Nat.zero_le _⟩ dX9_advance_143 ?_
                      refine q_rdS (As := [.int (s_X9_byteAt (nI en) bf (nI x1))]) (rest := []) (c_X9_isDigit l D cB cI cJ ad n ML105 (s_X9_byteAt (nI en) bf (nI x1))   ) X hK hP hS hl.1 rfl gX9_advance_X9_isDigit yd_X9_isDigit ⟨Nat.le_of_ble_eq_true rfl, Nat.le_of_ble_eq_true rfl⟩ rfl (Nat.le_of_ble_eq_true rfl) ⟨Nat.zero_le _, Nat.zero_le _⟩ dX9_advance_146 ?_
                      refine lv_if_eq (tgt := 165) hx hb dX9_advance_149 (by decide) (fun c_149 => ?_) (fun c_149 => ?_)
                      · skip
                        have hm1 : rgS en bf (s_X9_isLetter (s_X9_byteAt (nI en) bf (nI x0))) (s_X9_isDigit (s_X9_byteAt (nI en) bf (nI x0))) 701 (x0 + 1) = x1 := by rw [← hs1]; obtain ⟨r8, hr8⟩ : ∃ r8, r7 = r8 + 1 := ⟨r7 - 1, by omega⟩; rw [hr8, rgS]; first | (rw [if_neg c_113, if_pos c_117, if_neg c_135, if_pos c_149]; done) | (rw [if_neg c_113, if_neg c_117, if_pos c_131, if_neg c_135, if_pos c_149]; done)
                        refine lv_iload_n hx hb dX9_advance_165 rfl (lv_at hl 2 rfl) ?_
                        refine lv_if_eq (tgt := 185) hx hb dX9_advance_166 (by decide) (fun c_166 => ?_) (fun c_166 => ?_)
                        · skip
                          refine lv_iload_n hx hb dX9_advance_185 rfl (lv_at hl 3 rfl) ?_
                          refine lv_if_eq (tgt := 205) hx hb dX9_advance_186 (by decide) (fun c_186 => ?_) (fun c_186 => ?_)
                          · skip
                            refine lv_aload_n hx hb dX9_advance_205 rfl (lv_at hl 0 rfl) ?_
                            refine lv_iload_n hx hb dX9_advance_206 rfl (lv_at hl 1 rfl) ?_
                            refine q_rdS (As := [.int (s_X9_byteAt (nI en) bf (nI x0))]) (rest := [.ref (ad ta)]) (c_X9_isSign l D cB cI cJ ad n ML105 (s_X9_byteAt (nI en) bf (nI x0))   ) X hK hP hS hl.1 rfl gX9_advance_X9_isSign yd_X9_isSign ⟨Nat.le_of_ble_eq_true rfl, Nat.le_of_ble_eq_true rfl⟩ rfl (Nat.le_of_ble_eq_true rfl) ⟨Nat.zero_le _, Nat.zero_le _⟩ dX9_advance_207 ?_
                            refine lv_if_eq (tgt := 217) hx hb dX9_advance_210 (by decide) (fun c_210 => ?_) (fun c_210 => ?_)
                            · skip
                              refine lv_iconst (v := 3) hx hb dX9_advance_217 (by decide) ?_
                              refine q_put (fs := tapeF ad ta ln (nI en) (nI x1) (nI x0) kd nu 0) (fs' := tapeF ad ta ln (nI en) (nI x1) (nI x0) 3 nu 0) X hK hI hP hS fX9_advance_44 fw_9_5 h_ta mL105_0 rfl rfl (Nat.le_of_ble_eq_true rfl) rfl dX9_advance_218 (fun H locs hP hS => ?_)
                              exact q_wvret X hr hlocks hP hS ⟨(by refine (va_up_self ML105 ta (.inr (9, tapeF ad ta ln (nI en) (nI x1) (nI x0) 3 nu 0))).trans ?_; have hN : avN en bf x0 = x1 := (by rw [avN, if_neg c_76]; exact hm1); rw [hm0, avK, avU, avW, hN, if_neg c_76, if_neg c_76, if_neg c_76]; first | (rw [if_neg c_166, if_neg c_166, if_neg c_166]; done) | (rw [if_pos c_166, if_pos c_166, if_pos c_166, if_neg c_186, if_neg c_186]; done) | (rw [if_pos c_166, if_pos c_166, if_pos c_166, if_pos c_186, if_pos c_186, if_pos c_210]; done) | (rw [if_pos c_166, if_pos c_166, if_pos c_166, if_pos c_186, if_pos c_186, if_neg c_210]; done)), (fun q n0 => ((va_up_ne _ _ n0).trans (fL105 q n0)))⟩ dX9_advance_221
                            · skip
                              refine lv_iload_n hx hb dX9_advance_213 rfl (lv_at hl 1 rfl) ?_
                              refine lv_goto (tgt := 218) hx hb dX9_advance_214 (by decide) ?_
                              refine q_put (fs := tapeF ad ta ln (nI en) (nI x1) (nI x0) kd nu 0) (fs' := tapeF ad ta ln (nI en) (nI x1) (nI x0) (s_X9_byteAt (nI en) bf (nI x0)) nu 0) X hK hI hP hS fX9_advance_44 fw_9_5 h_ta mL105_0 rfl rfl (Nat.le_of_ble_eq_true rfl) rfl dX9_advance_218 (fun H locs hP hS => ?_)
                              exact q_wvret X hr hlocks hP hS ⟨(by refine (va_up_self ML105 ta (.inr (9, tapeF ad ta ln (nI en) (nI x1) (nI x0) (s_X9_byteAt (nI en) bf (nI x0)) nu 0))).trans ?_; have hN : avN en bf x0 = x1 := (by rw [avN, if_neg c_76]; exact hm1); rw [hm0, avK, avU, avW, hN, if_neg c_76, if_neg c_76, if_neg c_76]; first | (rw [if_neg c_166, if_neg c_166, if_neg c_166]; done) | (rw [if_pos c_166, if_pos c_166, if_pos c_166, if_neg c_186, if_neg c_186]; done) | (rw [if_pos c_166, if_pos c_166, if_pos c_166, if_pos c_186, if_pos c_186, if_pos c_210]; done) | (rw [if_pos c_166, if_pos c_166, if_pos c_166, if_pos c_186, if_pos c_186, if_neg c_210]; done)), (fun q n0 => ((va_up_ne _ _ n0).trans (fL105 q n0)))⟩ dX9_advance_221
                          · skip
                            refine lv_aload_n hx hb dX9_advance_189 rfl (lv_at hl 0 rfl) ?_
                            refine lv_iconst (v := 2) hx hb dX9_advance_190 (by decide) ?_
                            refine q_put (fs := tapeF ad ta ln (nI en) (nI x1) (nI x0) kd nu 0) (fs' := tapeF ad ta ln (nI en) (nI x1) (nI x0) 2 nu 0) X hK hI hP hS fX9_advance_44 fw_9_5 h_ta mL105_0 rfl rfl (Nat.le_of_ble_eq_true rfl) rfl dX9_advance_191 (fun H locs hP hS => ?_)
                            refine lv_aload_n hx hb dX9_advance_194 rfl (lv_at hl 0 rfl) ?_
                            refine lv_aload_n hx hb dX9_advance_195 rfl (lv_at hl 0 rfl) ?_
                            refine q_rdV (As := []) (rest := [.ref (ad ta)]) (c_X9_findNumber l D cB cI cJ ad n (va_up ML105 ta (.inr (9, tapeF ad ta ln (nI en) (nI x1) (nI x0) 2 nu 0))) ta en x1 x0 0 ln 2 nu bf h_ta h_ta_1 (va_up_self ML105 ta (.inr (9, tapeF ad ta ln (nI en) (nI x1) (nI x0) 2 nu 0))) ((va_up_ne ML105 (.inr (9, tapeF ad ta ln (nI en) (nI x1) (nI x0) 2 nu 0)) (show ta + 1 ≠ ta by omega)).trans ((fL105 (ta + 1) (by omega)).trans m_ta_1)) (by first | assumption | omega | exact vp_in_nI (by omega) (by decide) | exact vp_in_iff.mpr (by decide)) (by first | assumption | omega | exact vp_in_nI (by omega) (by decide) | exact vp_in_iff.mpr (by decide))) X hK hP hS hl.1 rfl gX9_advance_X9_findNumber yd_X9_findNumber ⟨Nat.le_of_ble_eq_true rfl, Nat.le_of_ble_eq_true rfl⟩ h_ta (va_up_self ML105 ta (.inr (9, tapeF ad ta ln (nI en) (nI x1) (nI x0) 2 nu 0))) (ci := 9) rfl rfl (Nat.le_of_ble_eq_true rfl) ⟨Nat.zero_le _, Nat.zero_le _⟩ dX9_advance_196 ?_
                            refine q_put (fs := tapeF ad ta ln (nI en) (nI x1) (nI x0) 2 nu 0) (fs' := tapeF ad ta ln (nI en) (nI x1) (nI x0) 2 (fnS (nI en) bf x0 x1) 0) X hK hI hP hS fX9_advance_62 fw_9_6 h_ta (va_up_self ML105 ta (.inr (9, tapeF ad ta ln (nI en) (nI x1) (nI x0) 2 nu 0))) rfl rfl (Nat.le_of_ble_eq_true rfl) rfl dX9_advance_199 (fun H locs hP hS => ?_)
                            refine lv_goto (tgt := 221) hx hb dX9_advance_202 (by decide) ?_
                            exact q_wvret X hr hlocks hP hS ⟨(by refine (va_up_self (va_up ML105 ta (.inr (9, tapeF ad ta ln (nI en) (nI x1) (nI x0) 2 nu 0))) ta (.inr (9, tapeF ad ta ln (nI en) (nI x1) (nI x0) 2 (fnS (nI en) bf x0 x1) 0))).trans ?_; have hN : avN en bf x0 = x1 := (by rw [avN, if_neg c_76]; exact hm1); rw [hm0, avK, avU, avW, hN, if_neg c_76, if_neg c_76, if_neg c_76]; first | (rw [if_neg c_166, if_neg c_166, if_neg c_166]; done) | (rw [if_pos c_166, if_pos c_166, if_pos c_166, if_neg c_186, if_neg c_186]; done) | (rw [if_pos c_166, if_pos c_166, if_pos c_166, if_pos c_186, if_pos c_186, if_pos c_210]; done) | (rw [if_pos c_166, if_pos c_166, if_pos c_166, if_pos c_186, if_pos c_186, if_neg c_210]; done)), (fun q n0 => ((va_up_ne _ _ n0).trans ((va_up_ne _ _ n0).trans (fL105 q n0))))⟩ dX9_advance_221
                        · skip
                          refine lv_aload_n hx hb dX9_advance_169 rfl (lv_at hl 0 rfl) ?_
                          refine lv_iconst (v := 1) hx hb dX9_advance_170 (by decide) ?_
                          refine q_put (fs := tapeF ad ta ln (nI en) (nI x1) (nI x0) kd nu 0) (fs' := tapeF ad ta ln (nI en) (nI x1) (nI x0) 1 nu 0) X hK hI hP hS fX9_advance_44 fw_9_5 h_ta mL105_0 rfl rfl (Nat.le_of_ble_eq_true rfl) rfl dX9_advance_171 (fun H locs hP hS => ?_)
                          refine lv_aload_n hx hb dX9_advance_174 rfl (lv_at hl 0 rfl) ?_
                          refine lv_aload_n hx hb dX9_advance_175 rfl (lv_at hl 0 rfl) ?_
                          refine q_rdVe (As := []) (rest := [.ref (ad ta)]) (c_X9_findWord l D cB cI cJ ad n (va_up ML105 ta (.inr (9, tapeF ad ta ln (nI en) (nI x1) (nI x0) 1 nu 0))) ta en x1 x0 0 ln 1 nu bf h_ta h_ta_1 (va_up_self ML105 ta (.inr (9, tapeF ad ta ln (nI en) (nI x1) (nI x0) 1 nu 0))) ((va_up_ne ML105 (.inr (9, tapeF ad ta ln (nI en) (nI x1) (nI x0) 1 nu 0)) (show ta + 1 ≠ ta by omega)).trans ((fL105 (ta + 1) (by omega)).trans m_ta_1)) (by first | assumption | omega | exact vp_in_nI (by omega) (by decide) | exact vp_in_iff.mpr (by decide)) (by first | assumption | omega | exact vp_in_nI (by omega) (by decide) | exact vp_in_iff.mpr (by decide))) X hK hP hS hl.1 rfl gX9_advance_X9_findWord yd_X9_findWord ⟨Nat.le_of_ble_eq_true rfl, Nat.le_of_ble_eq_true rfl⟩ h_ta (va_up_self ML105 ta (.inr (9, tapeF ad ta ln (nI en) (nI x1) (nI x0) 1 nu 0))) (ci := 9) rfl rfl (Nat.le_of_ble_eq_true rfl) ⟨Nat.zero_le _, Nat.zero_le _⟩ dX9_advance_176 ?_
                          refine q_put (fs := tapeF ad ta ln (nI en) (nI x1) (nI x0) 1 nu 0) (fs' := tapeF ad ta ln (nI en) (nI x1) (nI x0) 1 nu (fwS (nI en) bf (nI x0) (nI x1 - nI x0) 20 0)) X hK hI hP hS fX9_advance_21 fw_9_7 h_ta (va_up_self ML105 ta (.inr (9, tapeF ad ta ln (nI en) (nI x1) (nI x0) 1 nu 0))) rfl rfl (Nat.le_of_ble_eq_true rfl) rfl dX9_advance_179 (fun H locs hP hS => ?_)
                          refine lv_goto (tgt := 221) hx hb dX9_advance_182 (by decide) ?_
                          exact q_wvret X hr hlocks hP hS ⟨(by refine (va_up_self (va_up ML105 ta (.inr (9, tapeF ad ta ln (nI en) (nI x1) (nI x0) 1 nu 0))) ta (.inr (9, tapeF ad ta ln (nI en) (nI x1) (nI x0) 1 nu (fwS (nI en) bf (nI x0) (nI x1 - nI x0) 20 0)))).trans ?_; have hN : avN en bf x0 = x1 := (by rw [avN, if_neg c_76]; exact hm1); rw [hm0, avK, avU, avW, hN, if_neg c_76, if_neg c_76, if_neg c_76]; first | (rw [if_neg c_166, if_neg c_166, if_neg c_166]; done) | (rw [if_pos c_166, if_pos c_166, if_pos c_166, if_neg c_186, if_neg c_186]; done) | (rw [if_pos c_166, if_pos c_166, if_pos c_166, if_pos c_186, if_pos c_186, if_pos c_210]; done) | (rw [if_pos c_166, if_pos c_166, if_pos c_166, if_pos c_186, if_pos c_186, if_neg c_210]; done)), (fun q n0 => ((va_up_ne _ _ n0).trans ((va_up_ne _ _ n0).trans (fL105 q n0))))⟩ dX9_advance_221
                      · skip
                        refine lv_aload_n hx hb dX9_advance_152 rfl (lv_at hl 0 rfl) ?_
                        refine lv_dup hx hb dX9_advance_153 rfl ?_
                        refine q_get (v := .int (nI x1)) (fs := tapeF ad ta ln (nI en) (nI x1) (nI x0) kd nu 0) X hK hP fX9_advance_31 h_ta mL105_0 rfl dX9_advance_154 ?_
                        refine lv_iconst (v := 1) hx hb dX9_advance_157 (by decide) ?_
                        refine lv_iadd hx hb dX9_advance_158 ?_
                        refine q_put (fs := tapeF ad ta ln (nI en) (nI x1) (nI x0) kd nu 0) (fs' := tapeF ad ta ln (nI en) ((nI x1) + 1) (nI x0) kd nu 0) X hK hI hP hS fX9_advance_31 fw_9_3 h_ta mL105_0 rfl rfl (Nat.le_of_ble_eq_true rfl) rfl dX9_advance_159 (fun H locs hP hS => ?_)
                        refine lv_goto (tgt := 105) hx hb dX9_advance_162 (by decide) ?_
                        exact ih_105 (x1 + 1) (r7 - 1) (by have := lt_of_nlt c_113 (by omega) hx1; omega) (by have := lt_of_nlt c_113 (by omega) hx1; omega) (by omega) (by omega) (by rw [← hs1]; obtain ⟨r8, hr8⟩ : ∃ r8, r7 = r8 + 1 := ⟨r7 - 1, by omega⟩; rw [hr8, show r8 + 1 - 1 = r8 by omega, rgS]; first | (rw [if_neg c_113, if_neg c_117, if_neg c_131]; done) | (rw [if_neg c_113, if_neg c_117, if_pos c_131, if_neg c_135, if_neg c_149]; done) | (rw [if_neg c_113, if_pos c_117, if_neg c_135, if_neg c_149]; done)) _ _ _ (by refine (va_up_self ML105 ta (.inr (9, tapeF ad ta ln (nI en) ((nI x1) + 1) (nI x0) kd nu 0))).trans ?_; rw [nI_succ]) (fun q n0 => ((va_up_ne _ _ n0).trans (fL105 q n0))) hP hS ls (lv_sub hl [0, 1, 2, 3] rfl)
          exact loop_105 (702) (x0 + 1) 701 (by omega) (by have := bA_lt hen (by omega) c_76; omega) (by omega) (by omega) (by rfl) _ _ _ (by refine (va_up_self (va_up (va_up ML0 ta (.inr (9, tapeF ad ta ln (nI en) (nI x0) (nI x0) kd nu wo))) ta (.inr (9, tapeF ad ta ln (nI en) (nI x0) (nI x0) kd nu 0))) ta (.inr (9, tapeF ad ta ln (nI en) ((nI x0) + 1) (nI x0) kd nu 0))).trans ?_; rw [nI_succ]) (fun q n0 => ((va_up_ne _ _ n0).trans ((va_up_ne _ _ n0).trans ((va_up_ne _ _ n0).trans (fL0 q n0))))) hP hS ls (lv_sub hl [3, 2, 1, 0] rfl)
        · skip
          refine lv_aload_n hx hb dX9_advance_79 rfl (lv_at hl 1 rfl) ?_
          refine lv_iconst (v := 0) hx hb dX9_advance_80 (by decide) ?_
          refine q_put (fs := tapeF ad ta ln (nI en) (nI x0) (nI x0) kd nu 0) (fs' := tapeF ad ta ln (nI en) (nI x0) (nI x0) 0 nu 0) X hK hI hP hS fX9_advance_44 fw_9_5 h_ta (va_up_self (va_up ML0 ta (.inr (9, tapeF ad ta ln (nI en) (nI x0) (nI x0) kd nu wo))) ta (.inr (9, tapeF ad ta ln (nI en) (nI x0) (nI x0) kd nu 0))) rfl rfl (Nat.le_of_ble_eq_true rfl) rfl dX9_advance_81 (fun H locs hP hS => ?_)
          exact q_wvret X hr hlocks hP hS ⟨(by refine (va_up_self (va_up (va_up ML0 ta (.inr (9, tapeF ad ta ln (nI en) (nI x0) (nI x0) kd nu wo))) ta (.inr (9, tapeF ad ta ln (nI en) (nI x0) (nI x0) kd nu 0))) ta (.inr (9, tapeF ad ta ln (nI en) (nI x0) (nI x0) 0 nu 0))).trans ?_; rw [hm0]; simp only [avN, avK, avU, avW, if_pos c_76]), (fun q n0 => ((va_up_ne _ _ n0).trans ((va_up_ne _ _ n0).trans ((va_up_ne _ _ n0).trans (fL0 q n0)))))⟩ dX9_advance_84
      · skip
        refine lv_aload_n hx hb dX9_advance_11 rfl (lv_at hl 0 rfl) ?_
        refine lv_aload_n hx hb dX9_advance_12 rfl (lv_at hl 0 rfl) ?_
        refine q_get (v := .int (nI x0)) (fs := tapeF ad ta ln (nI en) (nI x0) pl kd nu wo) X hK hP fX9_advance_31 h_ta mL0_0 rfl dX9_advance_13 ?_
        refine q_rdV (As := [.int (nI x0)]) (rest := []) (c_X9_byteAt l D cB cI cJ ad n ML0 ta wo ln (nI en) (nI x0) pl kd nu bf (nI x0) h_ta h_ta_1 mL0_0 ((fL0 (ta + 1) (by omega)).trans m_ta_1) ) X hK hP hS hl.1 rfl gX9_advance_X9_byteAt yd_X9_byteAt ⟨Nat.le_of_ble_eq_true rfl, Nat.le_of_ble_eq_true rfl⟩ h_ta mL0_0 (ci := 9) rfl rfl (Nat.le_of_ble_eq_true rfl) ⟨Nat.zero_le _, Nat.zero_le _⟩ dX9_advance_16 ?_
        refine lv_bipush (v := 32) hx hb dX9_advance_19 (by decide) ?_
        refine lv_icmp_eq (tgt := 37) hx hb dX9_advance_21 (by decide) (fun c_21 => ?_) (fun c_21 => ?_)
        · skip
          refine lv_aload_n hx hb dX9_advance_37 rfl (lv_at hl 0 rfl) ?_
          refine lv_dup hx hb dX9_advance_38 rfl ?_
          refine q_get (v := .int (nI x0)) (fs := tapeF ad ta ln (nI en) (nI x0) pl kd nu wo) X hK hP fX9_advance_31 h_ta mL0_0 rfl dX9_advance_39 ?_
          refine lv_iconst (v := 1) hx hb dX9_advance_42 (by decide) ?_
          refine lv_iadd hx hb dX9_advance_43 ?_
          refine q_put (fs := tapeF ad ta ln (nI en) (nI x0) pl kd nu wo) (fs' := tapeF ad ta ln (nI en) ((nI x0) + 1) pl kd nu wo) X hK hI hP hS fX9_advance_31 fw_9_3 h_ta mL0_0 rfl rfl (Nat.le_of_ble_eq_true rfl) rfl dX9_advance_44 (fun H locs hP hS => ?_)
          refine lv_goto (tgt := 0) hx hb dX9_advance_47 (by decide) ?_
          exact ih_0 (x0 + 1) (r9 - 1) (by have := lt_of_nlt c_8 (by omega) hx0; omega) (by have := lt_of_nlt c_8 (by omega) hx0; omega) (by omega) (by rw [← hs0]; obtain ⟨r8, hr8⟩ : ∃ r8, r9 = r8 + 1 := ⟨r9 - 1, by omega⟩; rw [hr8, show r8 + 1 - 1 = r8 by omega, skS]; first | (rw [if_neg c_8, if_pos c_21]; done) | (rw [if_neg c_8, if_neg c_21, if_pos c_34]; done)) _ _ _ (by refine (va_up_self ML0 ta (.inr (9, tapeF ad ta ln (nI en) ((nI x0) + 1) pl kd nu wo))).trans ?_; rw [nI_succ]) (fun q n0 => ((va_up_ne _ _ n0).trans (fL0 q n0))) hP hS ls (lv_sub hl [0] rfl)
        · skip
          refine lv_aload_n hx hb dX9_advance_24 rfl (lv_at hl 0 rfl) ?_
          refine lv_aload_n hx hb dX9_advance_25 rfl (lv_at hl 0 rfl) ?_
          refine q_get (v := .int (nI x0)) (fs := tapeF ad ta ln (nI en) (nI x0) pl kd nu wo) X hK hP fX9_advance_31 h_ta mL0_0 rfl dX9_advance_26 ?_
          refine q_rdV (As := [.int (nI x0)]) (rest := []) (c_X9_byteAt l D cB cI cJ ad n ML0 ta wo ln (nI en) (nI x0) pl kd nu bf (nI x0) h_ta h_ta_1 mL0_0 ((fL0 (ta + 1) (by omega)).trans m_ta_1) ) X hK hP hS hl.1 rfl gX9_advance_X9_byteAt yd_X9_byteAt ⟨Nat.le_of_ble_eq_true rfl, Nat.le_of_ble_eq_true rfl⟩ h_ta mL0_0 (ci := 9) rfl rfl (Nat.le_of_ble_eq_true rfl) ⟨Nat.zero_le _, Nat.zero_le _⟩ dX9_advance_29 ?_
          refine lv_bipush (v := 10) hx hb dX9_advance_32 (by decide) ?_
          refine lv_icmp_ne (tgt := 50) hx hb dX9_advance_34 (by decide) (fun c_34 => ?_) (fun c_34 => ?_)
          · skip
            have hm0 : skS en bf 701 nx = x0 := by rw [← hs0]; obtain ⟨r8, hr8⟩ : ∃ r8, r9 = r8 + 1 := ⟨r9 - 1, by omega⟩; rw [hr8, skS, if_neg c_8, if_neg c_21, if_neg c_34]
            refine lv_aload_n hx hb dX9_advance_50 rfl (lv_at hl 0 rfl) ?_
            refine lv_aload_n hx hb dX9_advance_51 rfl (lv_at hl 0 rfl) ?_
            refine q_get (v := .int (nI x0)) (fs := tapeF ad ta ln (nI en) (nI x0) pl kd nu wo) X hK hP fX9_advance_31 h_ta mL0_0 rfl dX9_advance_52 ?_
            refine q_put (fs := tapeF ad ta ln (nI en) (nI x0) pl kd nu wo) (fs' := tapeF ad ta ln (nI en) (nI x0) (nI x0) kd nu wo) X hK hI hP hS fX9_advance_41 fw_9_4 h_ta mL0_0 rfl rfl (Nat.le_of_ble_eq_true rfl) rfl dX9_advance_55 (fun H locs hP hS => ?_)
            refine lv_aload_n hx hb dX9_advance_58 rfl (lv_at hl 0 rfl) ?_
            refine q_gsE (i := 0) (nm := "OTHER") X hK hS (by decide) rfl (by decide +kernel) dX9_advance_59 ?_
            refine q_put (fs := tapeF ad ta ln (nI en) (nI x0) (nI x0) kd nu wo) (fs' := tapeF ad ta ln (nI en) (nI x0) (nI x0) kd nu 0) X hK hI hP hS fX9_advance_21 fw_9_7 h_ta (va_up_self ML0 ta (.inr (9, tapeF ad ta ln (nI en) (nI x0) (nI x0) kd nu wo))) rfl rfl (Nat.le_of_ble_eq_true rfl) rfl dX9_advance_62 (fun H locs hP hS => ?_)
            refine lv_aload_n hx hb dX9_advance_65 rfl (lv_at hl 0 rfl) ?_
            refine lv_aload_n hx hb dX9_advance_66 rfl (lv_at hl 0 rfl) ?_
            refine q_get (v := .int (nI x0)) (fs := tapeF ad ta ln (nI en) (nI x0) (nI x0) kd nu 0) X hK hP fX9_advance_41 h_ta (va_up_self (va_up ML0 ta (.inr (9, tapeF ad ta ln (nI en) (nI x0) (nI x0) kd nu wo))) ta (.inr (9, tapeF ad ta ln (nI en) (nI x0) (nI x0) kd nu 0))) rfl dX9_advance_67 ?_
            refine q_rdV (As := [.int (nI x0)]) (rest := []) (c_X9_byteAt l D cB cI cJ ad n (va_up (va_up ML0 ta (.inr (9, tapeF ad ta ln (nI en) (nI x0) (nI x0) kd nu wo))) ta (.inr (9, tapeF ad ta ln (nI en) (nI x0) (nI x0) kd nu 0))) ta 0 ln (nI en) (nI x0) (nI x0) kd nu bf (nI x0) h_ta h_ta_1 (va_up_self (va_up ML0 ta (.inr (9, tapeF ad ta ln (nI en) (nI x0) (nI x0) kd nu wo))) ta (.inr (9, tapeF ad ta ln (nI en) (nI x0) (nI x0) kd nu 0))) ((va_up_ne (va_up ML0 ta (.inr (9, tapeF ad ta ln (nI en) (nI x0) (nI x0) kd nu wo))) (.inr (9, tapeF ad ta ln (nI en) (nI x0) (nI x0) kd nu 0)) (show ta + 1 ≠ ta by omega)).trans ((va_up_ne ML0 (.inr (9, tapeF ad ta ln (nI en) (nI x0) (nI x0) kd nu wo)) (show ta + 1 ≠ ta by omega)).trans ((fL0 (ta + 1) (by omega)).trans m_ta_1))) ) X hK hP hS hl.1 rfl gX9_advance_X9_byteAt yd_X9_byteAt ⟨Nat.le_of_ble_eq_true rfl, Nat.le_of_ble_eq_true rfl⟩ h_ta (va_up_self (va_up ML0 ta (.inr (9, tapeF ad ta ln (nI en) (nI x0) (nI x0) kd nu wo))) ta (.inr (9, tapeF ad ta ln (nI en) (nI x0) (nI x0) kd nu 0))) (ci := 9) rfl rfl (Nat.le_of_ble_eq_true rfl) ⟨Nat.zero_le _, Nat.zero_le _⟩ dX9_advance_70 ?_
            refine lv_istore_n (lv' := [(1, .int (s_X9_byteAt (nI en) bf (nI x0))), (0, .ref (ad ta))]) hx hb dX9_advance_73 rfl hl (by decide) rfl (fun ls hl => ?_)
            refine lv_iload_n hx hb dX9_advance_74 rfl (lv_at hl 0 rfl) ?_
            refine lv_iconst (v := (-1)) hx hb dX9_advance_75 (by decide) ?_
            refine lv_icmp_ne (tgt := 85) hx hb dX9_advance_76 (by decide) (fun c_76 => ?_) (fun c_76 => ?_)
            · skip
              refine lv_iload_n hx hb dX9_advance_85 rfl (lv_at hl 0 rfl) ?_
              refine q_rdS (As := [.int (s_X9_byteAt (nI en) bf (nI x0))]) (rest := []) (c_X9_isLetter l D cB cI cJ ad n (va_up (va_up ML0 ta (.inr (9, tapeF ad ta ln (nI en) (nI x0) (nI x0) kd nu wo))) ta (.inr (9, tapeF ad ta ln (nI en) (nI x0) (nI x0) kd nu 0))) (s_X9_byteAt (nI en) bf (nI x0))   ) X hK hP hS hl.1 rfl gX9_advance_X9_isLetter yd_X9_isLetter ⟨Nat.le_of_ble_eq_true rfl, Nat.le_of_ble_eq_true rfl⟩ rfl (Nat.le_of_ble_eq_true rfl) ⟨Nat.zero_le _, Nat.zero_le _⟩ dX9_advance_86 ?_
              refine lv_istore_n (lv' := [(2, .int (s_X9_isLetter (s_X9_byteAt (nI en) bf (nI x0)))), (1, .int (s_X9_byteAt (nI en) bf (nI x0))), (0, .ref (ad ta))]) hx hb dX9_advance_89 rfl hl (by decide) rfl (fun ls hl => ?_)
              refine lv_iload_n hx hb dX9_advance_90 rfl (lv_at hl 1 rfl) ?_
              refine q_rdS (As := [.int (s_X9_byteAt (nI en) bf (nI x0))]) (rest := []) (c_X9_isDigit l D cB cI cJ ad n (va_up (va_up ML0 ta (.inr (9, tapeF ad ta ln (nI en) (nI x0) (nI x0) kd nu wo))) ta (.inr (9, tapeF ad ta ln (nI en) (nI x0) (nI x0) kd nu 0))) (s_X9_byteAt (nI en) bf (nI x0))   ) X hK hP hS hl.1 rfl gX9_advance_X9_isDigit yd_X9_isDigit ⟨Nat.le_of_ble_eq_true rfl, Nat.le_of_ble_eq_true rfl⟩ rfl (Nat.le_of_ble_eq_true rfl) ⟨Nat.zero_le _, Nat.zero_le _⟩ dX9_advance_91 ?_
              refine lv_istore_n (lv' := [(3, .int (s_X9_isDigit (s_X9_byteAt (nI en) bf (nI x0)))), (2, .int (s_X9_isLetter (s_X9_byteAt (nI en) bf (nI x0)))), (1, .int (s_X9_byteAt (nI en) bf (nI x0))), (0, .ref (ad ta))]) hx hb dX9_advance_94 rfl hl (by decide) rfl (fun ls hl => ?_)
              refine lv_aload_n hx hb dX9_advance_95 rfl (lv_at hl 3 rfl) ?_
              refine lv_dup hx hb dX9_advance_96 rfl ?_
              refine q_get (v := .int (nI x0)) (fs := tapeF ad ta ln (nI en) (nI x0) (nI x0) kd nu 0) X hK hP fX9_advance_31 h_ta (va_up_self (va_up ML0 ta (.inr (9, tapeF ad ta ln (nI en) (nI x0) (nI x0) kd nu wo))) ta (.inr (9, tapeF ad ta ln (nI en) (nI x0) (nI x0) kd nu 0))) rfl dX9_advance_97 ?_
              refine lv_iconst (v := 1) hx hb dX9_advance_100 (by decide) ?_
              refine lv_iadd hx hb dX9_advance_101 ?_
              refine q_put (fs := tapeF ad ta ln (nI en) (nI x0) (nI x0) kd nu 0) (fs' := tapeF ad ta ln (nI en) ((nI x0) + 1) (nI x0) kd nu 0) X hK hI hP hS fX9_advance_31 fw_9_3 h_ta (va_up_self (va_up ML0 ta (.inr (9, tapeF ad ta ln (nI en) (nI x0) (nI x0) kd nu wo))) ta (.inr (9, tapeF ad ta ln (nI en) (nI x0) (nI x0) kd nu 0))) rfl rfl (Nat.le_of_ble_eq_true rfl) rfl dX9_advance_102 (fun H locs hP hS => ?_)
              have loop_105 : ∀ (fuel : Nat) (x1 r7 : Nat), en - x1 < fuel → (x1 ≤ en) → (x0 < x1) → (en < x1 + r7) → (rgS en bf (s_X9_isLetter (s_X9_byteAt (nI en) bf (nI x0))) (s_X9_isDigit (s_X9_byteAt (nI en) bf (nI x0))) r7 x1 = rgS en bf (s_X9_isLetter (s_X9_byteAt (nI en) bf (nI x0))) (s_X9_isDigit (s_X9_byteAt (nI en) bf (nI x0))) 701 (x0 + 1)) → ∀ (ML105 : Nat → va_E) (H : Heap) (locs : List Loc), ML105 ta = .inr (9, tapeF ad ta ln (nI en) (nI x1) (nI x0) kd nu 0) → (∀ q : Nat, q ≠ ta → ML105 q = M q) → va_P D vwCl (ip ad n ML105) H → va_S (ipA ad n) s.heap H locs → ∀ (ls : Array Slot), lv_has ls 4 [(0, .ref (ad ta)), (1, .int (s_X9_byteAt (nI en) bf (nI x0))), (2, .int (s_X9_isLetter (s_X9_byteAt (nI en) bf (nI x0)))), (3, .int (s_X9_isDigit (s_X9_byteAt (nI en) bf (nI x0))))] → W p l e (rmOf 5 109) s m args below meth c H locs 0 0 (MQ below (va_Qv (fun M' => M' ta = .inr (9, tapeF ad ta ln (nI en) (nI (avN en bf (skS en bf 701 nx))) (nI (skS en bf 701 nx)) (avK en bf (skS en bf 701 nx)) (avU en bf (skS en bf 701 nx) nu) (avW en bf (skS en bf 701 nx))) ∧ ∀ q : Nat, q ≠ ta → M' q = M q) (fun M' t => va_P D vwCl (ip ad n M') t.heap) (ipA ad n)) args s 0 0 (ipA ad n)) (F0 m 105 ls []) := by
                intro fuel
                induction fuel with
                | zero =>
                  intro x1 r7 hz
                  exact absurd hz (Nat.not_lt_zero _)
                | succ fuel ih_105 =>
                  intro x1 r7 hz_105 hx1 hx2 hr7 hs1 ML105 H locs mL105_0 fL105 hP hS ls hl
                  skip
                  refine lv_aload_n hx hb dX9_advance_105 rfl (lv_at hl 0 rfl) ?_
                  refine q_get (v := .int (nI x1)) (fs := tapeF ad ta ln (nI en) (nI x1) (nI x0) kd nu 0) X hK hP fX9_advance_31 h_ta mL105_0 rfl dX9_advance_106 ?_
                  refine lv_aload_n hx hb dX9_advance_109 rfl (lv_at hl 0 rfl) ?_
                  refine q_get (v := .int (nI en)) (fs := tapeF ad ta ln (nI en) (nI x1) (nI x0) kd nu 0) X hK hP fX9_advance_28 h_ta mL105_0 rfl dX9_advance_110 ?_
                  refine lv_icmp_ge (tgt := 165) hx hb dX9_advance_113 (by decide) (fun c_113 => ?_) (fun c_113 => ?_)
                  · skip
                    have hm1 : rgS en bf (s_X9_isLetter (s_X9_byteAt (nI en) bf (nI x0))) (s_X9_isDigit (s_X9_byteAt (nI en) bf (nI x0))) 701 (x0 + 1) = x1 := by rw [← hs1]; obtain ⟨r8, hr8⟩ : ∃ r8, r7 = r8 + 1 := ⟨r7 - 1, by omega⟩; rw [hr8, rgS, if_pos c_113]
                    refine lv_iload_n hx hb dX9_advance_165 rfl (lv_at hl 2 rfl) ?_
                    refine lv_if_eq (tgt := 185) hx hb dX9_advance_166 (by decide) (fun c_166 => ?_) (fun c_166 => ?_)
                    · skip
                      refine lv_iload_n hx hb dX9_advance_185 rfl (lv_at hl 3 rfl) ?_
                      refine lv_if_eq (tgt := 205) hx hb dX9_advance_186 (by decide) (fun c_186 => ?_) (fun c_186 => ?_)
                      · skip
                        refine lv_aload_n hx hb dX9_advance_205 rfl (lv_at hl 0 rfl) ?_
                        refine lv_iload_n hx hb dX9_advance_206 rfl (lv_at hl 1 rfl) ?_
                        refine q_rdS (As := [.int (s_X9_byteAt (nI en) bf (nI x0))]) (rest := [.ref (ad ta)]) (c_X9_isSign l D cB cI cJ ad n ML105 (s_X9_byteAt (nI en) bf (nI x0))   ) X hK hP hS hl.1 rfl gX9_advance_X9_isSign yd_X9_isSign ⟨Nat.le_of_ble_eq_true rfl, Nat.le_of_ble_eq_true rfl⟩ rfl (Nat.le_of_ble_eq_true rfl) ⟨Nat.zero_le _, Nat.zero_le _⟩ dX9_advance_207 ?_
                        refine lv_if_eq (tgt := 217) hx hb dX9_advance_210 (by decide) (fun c_210 => ?_) (fun c_210 => ?_)
                        · skip
                          refine lv_iconst (v := 3) hx hb dX9_advance_217 (by decide) ?_
                          refine q_put (fs := tapeF ad ta ln (nI en) (nI x1) (nI x0) kd nu 0) (fs' := tapeF ad ta ln (nI en) (nI x1) (nI x0) 3 nu 0) X hK hI hP hS fX9_advance_44 fw_9_5 h_ta mL105_0 rfl rfl (Nat.le_of_ble_eq_true rfl) rfl dX9_advance_218 (fun H locs hP hS => ?_)
                          exact q_wvret X hr hlocks hP hS ⟨(by refine (va_up_self ML105 ta (.inr (9, tapeF ad ta ln (nI en) (nI x1) (nI x0) 3 nu 0))).trans ?_; have hN : avN en bf x0 = x1 := (by rw [avN, if_neg c_76]; exact hm1); rw [hm0, avK, avU, avW, hN, if_neg c_76, if_neg c_76, if_neg c_76]; first | (rw [if_neg c_166, if_neg c_166, if_neg c_166]; done) | (rw [if_pos c_166, if_pos c_166, if_pos c_166, if_neg c_186, if_neg c_186]; done) | (rw [if_pos c_166, if_pos c_166, if_pos c_166, if_pos c_186, if_pos c_186, if_pos c_210]; done) | (rw [if_pos c_166, if_pos c_166, if_pos c_166, if_pos c_186, if_pos c_186, if_neg c_210]; done)), (fun q n0 => ((va_up_ne _ _ n0).trans (fL105 q n0)))⟩ dX9_advance_221
                        · skip
                          refine lv_iload_n hx hb dX9_advance_213 rfl (lv_at hl 1 rfl) ?_
                          refine lv_goto (tgt := 218) hx hb dX9_advance_214 (by decide) ?_
                          refine q_put (fs := tapeF ad ta ln (nI en) (nI x1) (nI x0) kd nu 0) (fs' := tapeF ad ta ln (nI en) (nI x1) (nI x0) (s_X9_byteAt (nI en) bf (nI x0)) nu 0) X hK hI hP hS fX9_advance_44 fw_9_5 h_ta mL105_0 rfl rfl (Nat.le_of_ble_eq_true rfl) rfl dX9_advance_218 (fun H locs hP hS => ?_)
                          exact q_wvret X hr hlocks hP hS ⟨(by refine (va_up_self ML105 ta (.inr (9, tapeF ad ta ln (nI en) (nI x1) (nI x0) (s_X9_byteAt (nI en) bf (nI x0)) nu 0))).trans ?_; have hN : avN en bf x0 = x1 := (by rw [avN, if_neg c_76]; exact hm1); rw [hm0, avK, avU, avW, hN, if_neg c_76, if_neg c_76, if_neg c_76]; first | (rw [if_neg c_166, if_neg c_166, if_neg c_166]; done) | (rw [if_pos c_166, if_pos c_166, if_pos c_166, if_neg c_186, if_neg c_186]; done) | (rw [if_pos c_166, if_pos c_166, if_pos c_166, if_pos c_186, if_pos c_186, if_pos c_210]; done) | (rw [if_pos c_166, if_pos c_166, if_pos c_166, if_pos c_186, if_pos c_186, if_neg c_210]; done)), (fun q n0 => ((va_up_ne _ _ n0).trans (fL105 q n0)))⟩ dX9_advance_221
                      · skip
                        refine lv_aload_n hx hb dX9_advance_189 rfl (lv_at hl 0 rfl) ?_
                        refine lv_iconst (v := 2) hx hb dX9_advance_190 (by decide) ?_
                        refine q_put (fs := tapeF ad ta ln (nI en) (nI x1) (nI x0) kd nu 0) (fs' := tapeF ad ta ln (nI en) (nI x1) (nI x0) 2 nu 0) X hK hI hP hS fX9_advance_44 fw_9_5 h_ta mL105_0 rfl rfl (Nat.le_of_ble_eq_true rfl) rfl dX9_advance_191 (fun H locs hP hS => ?_)
                        refine lv_aload_n hx hb dX9_advance_194 rfl (lv_at hl 0 rfl) ?_
                        refine lv_aload_n hx hb dX9_advance_195 rfl (lv_at hl 0 rfl) ?_
                        refine q_rdV (As := []) (rest := [.ref (ad ta)]) (c_X9_findNumber l D cB cI cJ ad n (va_up ML105 ta (.inr (9, tapeF ad ta ln (nI en) (nI x1) (nI x0) 2 nu 0))) ta en x1 x0 0 ln 2 nu bf h_ta h_ta_1 (va_up_self ML105 ta (.inr (9, tapeF ad ta ln (nI en) (nI x1) (nI x0) 2 nu 0))) ((va_up_ne ML105 (.inr (9, tapeF ad ta ln (nI en) (nI x1) (nI x0) 2 nu 0)) (show ta + 1 ≠ ta by omega)).trans ((fL105 (ta + 1) (by omega)).trans m_ta_1)) (by first | assumption | omega | exact vp_in_nI (by omega) (by decide) | exact vp_in_iff.mpr (by decide)) (by first | assumption | omega | exact vp_in_nI (by omega) (by decide) | exact vp_in_iff.mpr (by decide))) X hK hP hS hl.1 rfl gX9_advance_X9_findNumber yd_X9_findNumber ⟨Nat.le_of_ble_eq_true rfl, Nat.le_of_ble_eq_true rfl⟩ h_ta (va_up_self ML105 ta (.inr (9, tapeF ad ta ln (nI en) (nI x1) (nI x0) 2 nu 0))) (ci := 9) rfl rfl (Nat.le_of_ble_eq_true rfl) ⟨Nat.zero_le _, Nat.zero_le _⟩ dX9_advance_196 ?_
                        refine q_put (fs := tapeF ad ta ln (nI en) (nI x1) (nI x0) 2 nu 0) (fs' := tapeF ad ta ln (nI en) (nI x1) (nI x0) 2 (fnS (nI en) bf x0 x1) 0) X hK hI hP hS fX9_advance_62 fw_9_6 h_ta (va_up_self ML105 ta (.inr (9, tapeF ad ta ln (nI en) (nI x1) (nI x0) 2 nu 0))) rfl rfl (Nat.le_of_ble_eq_true rfl) rfl dX9_advance_199 (fun H locs hP hS => ?_)
                        refine lv_goto (tgt := 221) hx hb dX9_advance_202 (by decide) ?_
                        exact q_wvret X hr hlocks hP hS ⟨(by refine (va_up_self (va_up ML105 ta (.inr (9, tapeF ad ta ln (nI en) (nI x1) (nI x0) 2 nu 0))) ta (.inr (9, tapeF ad ta ln (nI en) (nI x1) (nI x0) 2 (fnS (nI en) bf x0 x1) 0))).trans ?_; have hN : avN en bf x0 = x1 := (by rw [avN, if_neg c_76]; exact hm1); rw [hm0, avK, avU, avW, hN, if_neg c_76, if_neg c_76, if_neg c_76]; first | (rw [if_neg c_166, if_neg c_166, if_neg c_166]; done) | (rw [if_pos c_166, if_pos c_166, if_pos c_166, if_neg c_186, if_neg c_186]; done) | (rw [if_pos c_166, if_pos c_166, if_pos c_166, if_pos c_186, if_pos c_186, if_pos c_210]; done) | (rw [if_pos c_166, if_pos c_166, if_pos c_166, if_pos c_186, if_pos c_186, if_neg c_210]; done)), (fun q n0 => ((va_up_ne _ _ n0).trans ((va_up_ne _ _ n0).trans (fL105 q n0))))⟩ dX9_advance_221
                    · skip
                      refine lv_aload_n hx hb dX9_advance_169 rfl (lv_at hl 0 rfl) ?_
                      refine lv_iconst (v := 1) hx hb dX9_advance_170 (by decide) ?_
                      refine q_put (fs := tapeF ad ta ln (nI en) (nI x1) (nI x0) kd nu 0) (fs' := tapeF ad ta ln (nI en) (nI x1) (nI x0) 1 nu 0) X hK hI hP hS fX9_advance_44 fw_9_5 h_ta mL105_0 rfl rfl (Nat.le_of_ble_eq_true rfl) rfl dX9_advance_171 (fun H locs hP hS => ?_)
                      refine lv_aload_n hx hb dX9_advance_174 rfl (lv_at hl 0 rfl) ?_
                      refine lv_aload_n hx hb dX9_advance_175 rfl (lv_at hl 0 rfl) ?_
                      refine q_rdVe (As := []) (rest := [.ref (ad ta)]) (c_X9_findWord l D cB cI cJ ad n (va_up ML105 ta (.inr (9, tapeF ad ta ln (nI en) (nI x1) (nI x0) 1 nu 0))) ta en x1 x0 0 ln 1 nu bf h_ta h_ta_1 (va_up_self ML105 ta (.inr (9, tapeF ad ta ln (nI en) (nI x1) (nI x0) 1 nu 0))) ((va_up_ne ML105 (.inr (9, tapeF ad ta ln (nI en) (nI x1) (nI x0) 1 nu 0)) (show ta + 1 ≠ ta by omega)).trans ((fL105 (ta + 1) (by omega)).trans m_ta_1)) (by first | assumption | omega | exact vp_in_nI (by omega) (by decide) | exact vp_in_iff.mpr (by decide)) (by first | assumption | omega | exact vp_in_nI (by omega) (by decide) | exact vp_in_iff.mpr (by decide))) X hK hP hS hl.1 rfl gX9_advance_X9_findWord yd_X9_findWord ⟨Nat.le_of_ble_eq_true rfl, Nat.le_of_ble_eq_true rfl⟩ h_ta (va_up_self ML105 ta (.inr (9, tapeF ad ta ln (nI en) (nI x1) (nI x0) 1 nu 0))) (ci := 9) rfl rfl (Nat.le_of_ble_eq_true rfl) ⟨Nat.zero_le _, Nat.zero_le _⟩ dX9_advance_176 ?_
                      refine q_put (fs := tapeF ad ta ln (nI en) (nI x1) (nI x0) 1 nu 0) (fs' := tapeF ad ta ln (nI en) (nI x1) (nI x0) 1 nu (fwS (nI en) bf (nI x0) (nI x1 - nI x0) 20 0)) X hK hI hP hS fX9_advance_21 fw_9_7 h_ta (va_up_self ML105 ta (.inr (9, tapeF ad ta ln (nI en) (nI x1) (nI x0) 1 nu 0))) rfl rfl (Nat.le_of_ble_eq_true rfl) rfl dX9_advance_179 (fun H locs hP hS => ?_)
                      refine lv_goto (tgt := 221) hx hb dX9_advance_182 (by decide) ?_
                      exact q_wvret X hr hlocks hP hS ⟨(by refine (va_up_self (va_up ML105 ta (.inr (9, tapeF ad ta ln (nI en) (nI x1) (nI x0) 1 nu 0))) ta (.inr (9, tapeF ad ta ln (nI en) (nI x1) (nI x0) 1 nu (fwS (nI en) bf (nI x0) (nI x1 - nI x0) 20 0)))).trans ?_; have hN : avN en bf x0 = x1 := (by rw [avN, if_neg c_76]; exact hm1); rw [hm0, avK, avU, avW, hN, if_neg c_76, if_neg c_76, if_neg c_76]; first | (rw [if_neg c_166, if_neg c_166, if_neg c_166]; done) | (rw [if_pos c_166, if_pos c_166, if_pos c_166, if_neg c_186, if_neg c_186]; done) | (rw [if_pos c_166, if_pos c_166, if_pos c_166, if_pos c_186, if_pos c_186, if_pos c_210]; done) | (rw [if_pos c_166, if_pos c_166, if_pos c_166, if_pos c_186, if_pos c_186, if_neg c_210]; done)), (fun q n0 => ((va_up_ne _ _ n0).trans ((va_up_ne _ _ n0).trans (fL105 q n0))))⟩ dX9_advance_221
                  · skip
                    refine lv_iload_n hx hb dX9_advance_116 rfl (lv_at hl 2 rfl) ?_
                    refine lv_if_eq (tgt := 134) hx hb dX9_advance_117 (by decide) (fun c_117 => ?_) (fun c_117 => ?_)
                    · skip
                      refine lv_iload_n hx hb dX9_advance_134 rfl (lv_at hl 3 rfl) ?_
                      refine lv_if_eq (tgt := 165) hx hb dX9_advance_135 (by decide) (fun c_135 => ?_) (fun c_135 => ?_)
                      · skip
                        have hm1 : rgS en bf (s_X9_isLetter (s_X9_byteAt (nI en) bf (nI x0))) (s_X9_isDigit (s_X9_byteAt (nI en) bf (nI x0))) 701 (x0 + 1) = x1 := by rw [← hs1]; obtain ⟨r8, hr8⟩ : ∃ r8, r7 = r8 + 1 := ⟨r7 - 1, by omega⟩; rw [hr8, rgS]; first | (rw [if_neg c_113, if_pos c_117, if_pos c_135]; done) | (rw [if_neg c_113, if_neg c_117, if_pos c_131, if_pos c_135]; done)
                        refine lv_iload_n hx hb dX9_advance_165 rfl (lv_at hl 2 rfl) ?_
                        refine lv_if_eq (tgt := 185) hx hb dX9_advance_166 (by decide) (fun c_166 => ?_) (fun c_166 => ?_)
                        · skip
                          refine lv_iload_n hx hb dX9_advance_185 rfl (lv_at hl 3 rfl) ?_
                          refine lv_if_eq (tgt := 205) hx hb dX9_advance_186 (by decide) (fun c_186 => ?_) (fun c_186 => ?_)
                          · skip
                            refine lv_aload_n hx hb dX9_advance_205 rfl (lv_at hl 0 rfl) ?_
                            refine lv_iload_n hx hb dX9_advance_206 rfl (lv_at hl 1 rfl) ?_
                            refine q_rdS (As := [.int (s_X9_byteAt (nI en) bf (nI x0))]) (rest := [.ref (ad ta)]) (c_X9_isSign l D cB cI cJ ad n ML105 (s_X9_byteAt (nI en) bf (nI x0))   ) X hK hP hS hl.1 rfl gX9_advance_X9_isSign yd_X9_isSign ⟨Nat.le_of_ble_eq_true rfl, Nat.le_of_ble_eq_true rfl⟩ rfl (Nat.le_of_ble_eq_true rfl) ⟨Nat.zero_le _, Nat.zero_le _⟩ dX9_advance_207 ?_
                            refine lv_if_eq (tgt := 217) hx hb dX9_advance_210 (by decide) (fun c_210 => ?_) (fun c_210 => ?_)
                            · skip
                              refine lv_iconst (v := 3) hx hb dX9_advance_217 (by decide) ?_
                              refine q_put (fs := tapeF ad ta ln (nI en) (nI x1) (nI x0) kd nu 0) (fs' := tapeF ad ta ln (nI en) (nI x1) (nI x0) 3 nu 0) X hK hI hP hS fX9_advance_44 fw_9_5 h_ta mL105_0 rfl rfl (Nat.le_of_ble_eq_true rfl) rfl dX9_advance_218 (fun H locs hP hS => ?_)
                              exact q_wvret X hr hlocks hP hS ⟨(by refine (va_up_self ML105 ta (.inr (9, tapeF ad ta ln (nI en) (nI x1) (nI x0) 3 nu 0))).trans ?_; have hN : avN en bf x0 = x1 := (by rw [avN, if_neg c_76]; exact hm1); rw [hm0, avK, avU, avW, hN, if_neg c_76, if_neg c_76, if_neg c_76]; first | (rw [if_neg c_166, if_neg c_166, if_neg c_166]; done) | (rw [if_pos c_166, if_pos c_166, if_pos c_166, if_neg c_186, if_neg c_186]; done) | (rw [if_pos c_166, if_pos c_166, if_pos c_166, if_pos c_186, if_pos c_186, if_pos c_210]; done) | (rw [if_pos c_166, if_pos c_166, if_pos c_166, if_pos c_186, if_pos c_186, if_neg c_210]; done)), (fun q n0 => ((va_up_ne _ _ n0).trans (fL105 q n0)))⟩ dX9_advance_221
                            · skip
                              refine lv_iload_n hx hb dX9_advance_213 rfl (lv_at hl 1 rfl) ?_
                              refine lv_goto (tgt := 218) hx hb dX9_advance_214 (by decide) ?_
                              refine q_put (fs := tapeF ad ta ln (nI en) (nI x1) (nI x0) kd nu 0) (fs' := tapeF ad ta ln (nI en) (nI x1) (nI x0) (s_X9_byteAt (nI en) bf (nI x0)) nu 0) X hK hI hP hS fX9_advance_44 fw_9_5 h_ta mL105_0 rfl rfl (Nat.le_of_ble_eq_true rfl) rfl dX9_advance_218 (fun H locs hP hS => ?_)
                              exact q_wvret X hr hlocks hP hS ⟨(by refine (va_up_self ML105 ta (.inr (9, tapeF ad ta ln (nI en) (nI x1) (nI x0) (s_X9_byteAt (nI en) bf (nI x0)) nu 0))).trans ?_; have hN : avN en bf x0 = x1 := (by rw [avN, if_neg c_76]; exact hm1); rw [hm0, avK, avU, avW, hN, if_neg c_76, if_neg c_76, if_neg c_76]; first | (rw [if_neg c_166, if_neg c_166, if_neg c_166]; done) | (rw [if_pos c_166, if_pos c_166, if_pos c_166, if_neg c_186, if_neg c_186]; done) | (rw [if_pos c_166, if_pos c_166, if_pos c_166, if_pos c_186, if_pos c_186, if_pos c_210]; done) | (rw [if_pos c_166, if_pos c_166, if_pos c_166, if_pos c_186, if_pos c_186, if_neg c_210]; done)), (fun q n0 => ((va_up_ne _ _ n0).trans (fL105 q n0)))⟩ dX9_advance_221
                          · skip
                            refine lv_aload_n hx hb dX9_advance_189 rfl (lv_at hl 0 rfl) ?_
                            refine lv_iconst (v := 2) hx hb dX9_advance_190 (by decide) ?_
                            refine q_put (fs := tapeF ad ta ln (nI en) (nI x1) (nI x0) kd nu 0) (fs' := tapeF ad ta ln (nI en) (nI x1) (nI x0) 2 nu 0) X hK hI hP hS fX9_advance_44 fw_9_5 h_ta mL105_0 rfl rfl (Nat.le_of_ble_eq_true rfl) rfl dX9_advance_191 (fun H locs hP hS => ?_)
                            refine lv_aload_n hx hb dX9_advance_194 rfl (lv_at hl 0 rfl) ?_
                            refine lv_aload_n hx hb dX9_advance_195 rfl (lv_at hl 0 rfl) ?_
                            refine q_rdV (As := []) (rest := [.ref (ad ta)]) (c_X9_findNumber l D cB cI cJ ad n (va_up ML105 ta (.inr (9, tapeF ad ta ln (nI en) (nI x1) (nI x0) 2 nu 0))) ta en x1 x0 0 ln 2 nu bf h_ta h_ta_1 (va_up_self ML105 ta (.inr (9, tapeF ad ta ln (nI en) (nI x1) (nI x0) 2 nu 0))) ((va_up_ne ML105 (.inr (9, tapeF ad ta ln (nI en) (nI x1) (nI x0) 2 nu 0)) (show ta + 1 ≠ ta by omega)).trans ((fL105 (ta + 1) (by omega)).trans m_ta_1)) (by first | assumption | omega | exact vp_in_nI (by omega) (by decide) | exact vp_in_iff.mpr (by decide)) (by first | assumption | omega | exact vp_in_nI (by omega) (by decide) | exact vp_in_iff.mpr (by decide))) X hK hP hS hl.1 rfl gX9_advance_X9_findNumber yd_X9_findNumber ⟨Nat.le_of_ble_eq_true rfl, Nat.le_of_ble_eq_true rfl⟩ h_ta (va_up_self ML105 ta (.inr (9, tapeF ad ta ln (nI en) (nI x1) (nI x0) 2 nu 0))) (ci := 9) rfl rfl (Nat.le_of_ble_eq_true rfl) ⟨Nat.zero_le _, Nat.zero_le _⟩ dX9_advance_196 ?_
                            refine q_put (fs := tapeF ad ta ln (nI en) (nI x1) (nI x0) 2 nu 0) (fs' := tapeF ad ta ln (nI en) (nI x1) (nI x0) 2 (fnS (nI en) bf x0 x1) 0) X hK hI hP hS fX9_advance_62 fw_9_6 h_ta (va_up_self ML105 ta (.inr (9, tapeF ad ta ln (nI en) (nI x1) (nI x0) 2 nu 0))) rfl rfl (Nat.le_of_ble_eq_true rfl) rfl dX9_advance_199 (fun H locs hP hS => ?_)
                            refine lv_goto (tgt := 221) hx hb dX9_advance_202 (by decide) ?_
                            exact q_wvret X hr hlocks hP hS ⟨(by refine (va_up_self (va_up ML105 ta (.inr (9, tapeF ad ta ln (nI en) (nI x1) (nI x0) 2 nu 0))) ta (.inr (9, tapeF ad ta ln (nI en) (nI x1) (nI x0) 2 (fnS (nI en) bf x0 x1) 0))).trans ?_; have hN : avN en bf x0 = x1 := (by rw [avN, if_neg c_76]; exact hm1); rw [hm0, avK, avU, avW, hN, if_neg c_76, if_neg c_76, if_neg c_76]; first | (rw [if_neg c_166, if_neg c_166, if_neg c_166]; done) | (rw [if_pos c_166, if_pos c_166, if_pos c_166, if_neg c_186, if_neg c_186]; done) | (rw [if_pos c_166, if_pos c_166, if_pos c_166, if_pos c_186, if_pos c_186, if_pos c_210]; done) | (rw [if_pos c_166, if_pos c_166, if_pos c_166, if_pos c_186, if_pos c_186, if_neg c_210]; done)), (fun q n0 => ((va_up_ne _ _ n0).trans ((va_up_ne _ _ n0).trans (fL105 q n0))))⟩ dX9_advance_221
                        · skip
                          refine lv_aload_n hx hb dX9_advance_169 rfl (lv_at hl 0 rfl) ?_
                          refine lv_iconst (v := 1) hx hb dX9_advance_170 (by decide) ?_
                          refine q_put (fs := tapeF ad ta ln (nI en) (nI x1) (nI x0) kd nu 0) (fs' := tapeF ad ta ln (nI en) (nI x1) (nI x0) 1 nu 0) X hK hI hP hS fX9_advance_44 fw_9_5 h_ta mL105_0 rfl rfl (Nat.le_of_ble_eq_true rfl) rfl dX9_advance_171 (fun H locs hP hS => ?_)
                          refine lv_aload_n hx hb dX9_advance_174 rfl (lv_at hl 0 rfl) ?_
                          refine lv_aload_n hx hb dX9_advance_175 rfl (lv_at hl 0 rfl) ?_
                          refine q_rdVe (As := []) (rest := [.ref (ad ta)]) (c_X9_findWord l D cB cI cJ ad n (va_up ML105 ta (.inr (9, tapeF ad ta ln (nI en) (nI x1) (nI x0) 1 nu 0))) ta en x1 x0 0 ln 1 nu bf h_ta h_ta_1 (va_up_self ML105 ta (.inr (9, tapeF ad ta ln (nI en) (nI x1) (nI x0) 1 nu 0))) ((va_up_ne ML105 (.inr (9, tapeF ad ta ln (nI en) (nI x1) (nI x0) 1 nu 0)) (show ta + 1 ≠ ta by omega)).trans ((fL105 (ta + 1) (by omega)).trans m_ta_1)) (by first | assumption | omega | exact vp_in_nI (by omega) (by decide) | exact vp_in_iff.mpr (by decide)) (by first | assumption | omega | exact vp_in_nI (by omega) (by decide) | exact vp_in_iff.mpr (by decide))) X hK hP hS hl.1 rfl gX9_advance_X9_findWord yd_X9_findWord ⟨Nat.le_of_ble_eq_true rfl, Nat.le_of_ble_eq_true rfl⟩ h_ta (va_up_self ML105 ta (.inr (9, tapeF ad ta ln (nI en) (nI x1) (nI x0) 1 nu 0))) (ci := 9) rfl rfl (Nat.le_of_ble_eq_true rfl) ⟨Nat.zero_le _, Nat.zero_le _⟩ dX9_advance_176 ?_
                          refine q_put (fs := tapeF ad ta ln (nI en) (nI x1) (nI x0) 1 nu 0) (fs' := tapeF ad ta ln (nI en) (nI x1) (nI x0) 1 nu (fwS (nI en) bf (nI x0) (nI x1 - nI x0) 20 0)) X hK hI hP hS fX9_advance_21 fw_9_7 h_ta (va_up_self ML105 ta (.inr (9, tapeF ad ta ln (nI en) (nI x1) (nI x0) 1 nu 0))) rfl rfl (Nat.le_of_ble_eq_true rfl) rfl dX9_advance_179 (fun H locs hP hS => ?_)
                          refine lv_goto (tgt := 221) hx hb dX9_advance_182 (by decide) ?_
                          exact q_wvret X hr hlocks hP hS ⟨(by refine (va_up_self (va_up ML105 ta (.inr (9, tapeF ad ta ln (nI en) (nI x1) (nI x0) 1 nu 0))) ta (.inr (9, tapeF ad ta ln (nI en) (nI x1) (nI x0) 1 nu (fwS (nI en) bf (nI x0) (nI x1 - nI x0) 20 0)))).trans ?_; have hN : avN en bf x0 = x1 := (by rw [avN, if_neg c_76]; exact hm1); rw [hm0, avK, avU, avW, hN, if_neg c_76, if_neg c_76, if_neg c_76]; first | (rw [if_neg c_166, if_neg c_166, if_neg c_166]; done) | (rw [if_pos c_166, if_pos c_166, if_pos c_166, if_neg c_186, if_neg c_186]; done) | (rw [if_pos c_166, if_pos c_166, if_pos c_166, if_pos c_186, if_pos c_186, if_pos c_210]; done) | (rw [if_pos c_166, if_pos c_166, if_pos c_166, if_pos c_186, if_pos c_186, if_neg c_210]; done)), (fun q n0 => ((va_up_ne _ _ n0).trans ((va_up_ne _ _ n0).trans (fL105 q n0))))⟩ dX9_advance_221
                      · skip
                        refine lv_aload_n hx hb dX9_advance_138 rfl (lv_at hl 0 rfl) ?_
                        refine lv_aload_n hx hb dX9_advance_139 rfl (lv_at hl 0 rfl) ?_
                        refine q_get (v := .int (nI x1)) (fs := tapeF ad ta ln (nI en) (nI x1) (nI x0) kd nu 0) X hK hP fX9_advance_31 h_ta mL105_0 rfl dX9_advance_140 ?_
                        refine q_rdV (As := [.int (nI x1)]) (rest := []) (c_X9_byteAt l D cB cI cJ ad n ML105 ta 0 ln (nI en) (nI x1) (nI x0) kd nu bf (nI x1) h_ta h_ta_1 mL105_0 ((fL105 (ta + 1) (by omega)).trans m_ta_1) ) X hK hP hS hl.1 rfl gX9_advance_X9_byteAt yd_X9_byteAt ⟨Nat.le_of_ble_eq_true rfl, Nat.le_of_ble_eq_true rfl⟩ h_ta mL105_0 (ci := 9) rfl rfl (Nat.le_of_ble_eq_true rfl) ⟨Nat.zero_le _, Nat.zero_le _⟩ dX9_advance_143 ?_
                        refine q_rdS (As := [.int (s_X9_byteAt (nI en) bf (nI x1))]) (rest := []) (c_X9_isDigit l D cB cI cJ ad n ML105 (s_X9_byteAt (nI en) bf (nI x1))   ) X hK hP hS hl.1 rfl gX9_advance_X9_isDigit yd_X9_isDigit ⟨Nat.le_of_ble_eq_true rfl, Nat.le_of_ble_eq_true rfl⟩ rfl (Nat.le_of_ble_eq_true rfl) ⟨Nat.zero_le _, Nat.zero_le _⟩ dX9_advance_146 ?_
                        refine lv_if_eq (tgt := 165) hx hb dX9_advance_149 (by decide) (fun c_149 => ?_) (fun c_149 => ?_)
                        · skip
                          have hm1 : rgS en bf (s_X9_isLetter (s_X9_byteAt (nI en) bf (nI x0))) (s_X9_isDigit (s_X9_byteAt (nI en) bf (nI x0))) 701 (x0 + 1) = x1 := by rw [← hs1]; obtain ⟨r8, hr8⟩ : ∃ r8, r7 = r8 + 1 := ⟨r7 - 1, by omega⟩; rw [hr8, rgS]; first | (rw [if_neg c_113, if_pos c_117, if_neg c_135, if_pos c_149]; done) | (rw [if_neg c_113, if_neg c_117, if_pos c_131, if_neg c_135, if_pos c_149]; done)
                          refine lv_iload_n hx hb dX9_advance_165 rfl (lv_at hl 2 rfl) ?_
                          refine lv_if_eq (tgt := 185) hx hb dX9_advance_166 (by decide) (fun c_166 => ?_) (fun c_166 => ?_)
                          · skip
                            refine lv_iload_n hx hb dX9_advance_185 rfl (lv_at hl 3 rfl) ?_
                            refine lv_if_eq (tgt := 205) hx hb dX9_advance_186 (by decide) (fun c_186 => ?_) (fun c_186 => ?_)
                            · skip
                              refine lv_aload_n hx hb dX9_advance_205 rfl (lv_at hl 0 rfl) ?_
                              refine lv_iload_n hx hb dX9_advance_206 rfl (lv_at hl 1 rfl) ?_
                              refine q_rdS (As := [.int (s_X9_byteAt (nI en) bf (nI x0))]) (rest := [.ref (ad ta)]) (c_X9_isSign l D cB cI cJ ad n ML105 (s_X9_byteAt (nI en) bf (nI x0))   ) X hK hP hS hl.1 rfl gX9_advance_X9_isSign yd_X9_isSign ⟨Nat.le_of_ble_eq_true rfl, Nat.le_of_ble_eq_true rfl⟩ rfl (Nat.le_of_ble_eq_true rfl) ⟨Nat.zero_le _, Nat.zero_le _⟩ dX9_advance_207 ?_
                              refine lv_if_eq (tgt := 217) hx hb dX9_advance_210 (by decide) (fun c_210 => ?_) (fun c_210 => ?_)
                              · skip
                                refine lv_iconst (v := 3) hx hb dX9_advance_217 (by decide) ?_
                                refine q_put (fs := tapeF ad ta ln (nI en) (nI x1) (nI x0) kd nu 0) (fs' := tapeF ad ta ln (nI en) (nI x1) (nI x0) 3 nu 0) X hK hI hP hS fX9_advance_44 fw_9_5 h_ta mL105_0 rfl rfl (Nat.le_of_ble_eq_true rfl) rfl dX9_advance_218 (fun H locs hP hS => ?_)
                                exact q_wvret X hr hlocks hP hS ⟨(by refine (va_up_self ML105 ta (.inr (9, tapeF ad ta ln (nI en) (nI x1) (nI x0) 3 nu 0))).trans ?_; have hN : avN en bf x0 = x1 := (by rw [avN, if_neg c_76]; exact hm1); rw [hm0, avK, avU, avW, hN, if_neg c_76, if_neg c_76, if_neg c_76]; first | (rw [if_neg c_166, if_neg c_166, if_neg c_166]; done) | (rw [if_pos c_166, if_pos c_166, if_pos c_166, if_neg c_186, if_neg c_186]; done) | (rw [if_pos c_166, if_pos c_166, if_pos c_166, if_pos c_186, if_pos c_186, if_pos c_210]; done) | (rw [if_pos c_166, if_pos c_166, if_pos c_166, if_pos c_186, if_pos c_186, if_neg c_210]; done)), (fun q n0 => ((va_up_ne _ _ n0).trans (fL105 q n0)))⟩ dX9_advance_221
                              · skip
                                refine lv_iload_n hx hb dX9_advance_213 rfl (lv_at hl 1 rfl) ?_
                                refine lv_goto (tgt := 218) hx hb dX9_advance_214 (by decide) ?_
                                refine q_put (fs := tapeF ad ta ln (nI en) (nI x1) (nI x0) kd nu 0) (fs' := tapeF ad ta ln (nI en) (nI x1) (nI x0) (s_X9_byteAt (nI en) bf (nI x0)) nu 0) X hK hI hP hS fX9_advance_44 fw_9_5 h_ta mL105_0 rfl rfl (Nat.le_of_ble_eq_true rfl) rfl dX9_advance_218 (fun H locs hP hS => ?_)
                                exact q_wvret X hr hlocks hP hS ⟨(by refine (va_up_self ML105 ta (.inr (9, tapeF ad ta ln (nI en) (nI x1) (nI x0) (s_X9_byteAt (nI en) bf (nI x0)) nu 0))).trans ?_; have hN : avN en bf x0 = x1 := (by rw [avN, if_neg c_76]; exact hm1); rw [hm0, avK, avU, avW, hN, if_neg c_76, if_neg c_76, if_neg c_76]; first | (rw [if_neg c_166, if_neg c_166, if_neg c_166]; done) | (rw [if_pos c_166, if_pos c_166, if_pos c_166, if_neg c_186, if_neg c_186]; done) | (rw [if_pos c_166, if_pos c_166, if_pos c_166, if_pos c_186, if_pos c_186, if_pos c_210]; done) | (rw [if_pos c_166, if_pos c_166, if_pos c_166, if_pos c_186, if_pos c_186, if_neg c_210]; done)), (fun q n0 => ((va_up_ne _ _ n0).trans (fL105 q n0)))⟩ dX9_advance_221
                            · skip
                              refine lv_aload_n hx hb dX9_advance_189 rfl (lv_at hl 0 rfl) ?_
                              refine lv_iconst (v := 2) hx hb dX9_advance_190 (by decide) ?_
                              refine q_put (fs := tapeF ad ta ln (nI en) (nI x1) (nI x0) kd nu 0) (fs' := tapeF ad ta ln (nI en) (nI x1) (nI x0) 2 nu 0) X hK hI hP hS fX9_advance_44 fw_9_5 h_ta mL105_0 rfl rfl (Nat.le_of_ble_eq_true rfl) rfl dX9_advance_191 (fun H locs hP hS => ?_)
                              refine lv_aload_n hx hb dX9_advance_194 rfl (lv_at hl 0 rfl) ?_
                              refine lv_aload_n hx hb dX9_advance_195 rfl (lv_at hl 0 rfl) ?_
                              refine q_rdV (As := []) (rest := [.ref (ad ta)]) (c_X9_findNumber l D cB cI cJ ad n (va_up ML105 ta (.inr (9, tapeF ad ta ln (nI en) (nI x1) (nI x0) 2 nu 0))) ta en x1 x0 0 ln 2 nu bf h_ta h_ta_1 (va_up_self ML105 ta (.inr (9, tapeF ad ta ln (nI en) (nI x1) (nI x0) 2 nu 0))) ((va_up_ne ML105 (.inr (9, tapeF ad ta ln (nI en) (nI x1) (nI x0) 2 nu 0)) (show ta + 1 ≠ ta by omega)).trans ((fL105 (ta + 1) (by omega)).trans m_ta_1)) (by first | assumption | omega | exact vp_in_nI (by omega) (by decide) | exact vp_in_iff.mpr (by decide)) (by first | assumption | omega | exact vp_in_nI (by omega) (by decide) | exact vp_in_iff.mpr (by decide))) X hK hP hS hl.1 rfl gX9_advance_X9_findNumber yd_X9_findNumber ⟨Nat.le_of_ble_eq_true rfl, Nat.le_of_ble_eq_true rfl⟩ h_ta (va_up_self ML105 ta (.inr (9, tapeF ad ta ln (nI en) (nI x1) (nI x0) 2 nu 0))) (ci := 9) rfl rfl (Nat.le_of_ble_eq_true rfl) ⟨Nat.zero_le _, Nat.zero_le _⟩ dX9_advance_196 ?_
                              refine q_put (fs := tapeF ad ta ln (nI en) (nI x1) (nI x0) 2 nu 0) (fs' := tapeF ad ta ln (nI en) (nI x1) (nI x0) 2 (fnS (nI en) bf x0 x1) 0) X hK hI hP hS fX9_advance_62 fw_9_6 h_ta (va_up_self ML105 ta (.inr (9, tapeF ad ta ln (nI en) (nI x1) (nI x0) 2 nu 0))) rfl rfl (Nat.le_of_ble_eq_true rfl) rfl dX9_advance_199 (fun H locs hP hS => ?_)
                              refine lv_goto (tgt := 221) hx hb dX9_advance_202 (by decide) ?_
                              exact q_wvret X hr hlocks hP hS ⟨(by refine (va_up_self (va_up ML105 ta (.inr (9, tapeF ad ta ln (nI en) (nI x1) (nI x0) 2 nu 0))) ta (.inr (9, tapeF ad ta ln (nI en) (nI x1) (nI x0) 2 (fnS (nI en) bf x0 x1) 0))).trans ?_; have hN : avN en bf x0 = x1 := (by rw [avN, if_neg c_76]; exact hm1); rw [hm0, avK, avU, avW, hN, if_neg c_76, if_neg c_76, if_neg c_76]; first | (rw [if_neg c_166, if_neg c_166, if_neg c_166]; done) | (rw [if_pos c_166, if_pos c_166, if_pos c_166, if_neg c_186, if_neg c_186]; done) | (rw [if_pos c_166, if_pos c_166, if_pos c_166, if_pos c_186, if_pos c_186, if_pos c_210]; done) | (rw [if_pos c_166, if_pos c_166, if_pos c_166, if_pos c_186, if_pos c_186, if_neg c_210]; done)), (fun q n0 => ((va_up_ne _ _ n0).trans ((va_up_ne _ _ n0).trans (fL105 q n0))))⟩ dX9_advance_221
                          · skip
                            refine lv_aload_n hx hb dX9_advance_169 rfl (lv_at hl 0 rfl) ?_
                            refine lv_iconst (v := 1) hx hb dX9_advance_170 (by decide) ?_
                            refine q_put (fs := tapeF ad ta ln (nI en) (nI x1) (nI x0) kd nu 0) (fs' := tapeF ad ta ln (nI en) (nI x1) (nI x0) 1 nu 0) X hK hI hP hS fX9_advance_44 fw_9_5 h_ta mL105_0 rfl rfl (Nat.le_of_ble_eq_true rfl) rfl dX9_advance_171 (fun H locs hP hS => ?_)
                            refine lv_aload_n hx hb dX9_advance_174 rfl (lv_at hl 0 rfl) ?_
                            refine lv_aload_n hx hb dX9_advance_175 rfl (lv_at hl 0 rfl) ?_
                            refine q_rdVe (As := []) (rest := [.ref (ad ta)]) (c_X9_findWord l D cB cI cJ ad n (va_up ML105 ta (.inr (9, tapeF ad ta ln (nI en) (nI x1) (nI x0) 1 nu 0))) ta en x1 x0 0 ln 1 nu bf h_ta h_ta_1 (va_up_self ML105 ta (.inr (9, tapeF ad ta ln (nI en) (nI x1) (nI x0) 1 nu 0))) ((va_up_ne ML105 (.inr (9, tapeF ad ta ln (nI en) (nI x1) (nI x0) 1 nu 0)) (show ta + 1 ≠ ta by omega)).trans ((fL105 (ta + 1) (by omega)).trans m_ta_1)) (by first | assumption | omega | exact vp_in_nI (by omega) (by decide) | exact vp_in_iff.mpr (by decide)) (by first | assumption | omega | exact vp_in_nI (by omega) (by decide) | exact vp_in_iff.mpr (by decide))) X hK hP hS hl.1 rfl gX9_advance_X9_findWord yd_X9_findWord ⟨Nat.le_of_ble_eq_true rfl, Nat.le_of_ble_eq_true rfl⟩ h_ta (va_up_self ML105 ta (.inr (9, tapeF ad ta ln (nI en) (nI x1) (nI x0) 1 nu 0))) (ci := 9) rfl rfl (Nat.le_of_ble_eq_true rfl) ⟨Nat.zero_le _, Nat.zero_le _⟩ dX9_advance_176 ?_
                            refine q_put (fs := tapeF ad ta ln (nI en) (nI x1) (nI x0) 1 nu 0) (fs' := tapeF ad ta ln (nI en) (nI x1) (nI x0) 1 nu (fwS (nI en) bf (nI x0) (nI x1 - nI x0) 20 0)) X hK hI hP hS fX9_advance_21 fw_9_7 h_ta (va_up_self ML105 ta (.inr (9, tapeF ad ta ln (nI en) (nI x1) (nI x0) 1 nu 0))) rfl rfl (Nat.le_of_ble_eq_true rfl) rfl dX9_advance_179 (fun H locs hP hS => ?_)
                            refine lv_goto (tgt := 221) hx hb dX9_advance_182 (by decide) ?_
                            exact q_wvret X hr hlocks hP hS ⟨(by refine (va_up_self (va_up ML105 ta (.inr (9, tapeF ad ta ln (nI en) (nI x1) (nI x0) 1 nu 0))) ta (.inr (9, tapeF ad ta ln (nI en) (nI x1) (nI x0) 1 nu (fwS (nI en) bf (nI x0) (nI x1 - nI x0) 20 0)))).trans ?_; have hN : avN en bf x0 = x1 := (by rw [avN, if_neg c_76]; exact hm1); rw [hm0, avK, avU, avW, hN, if_neg c_76, if_neg c_76, if_neg c_76]; first | (rw [if_neg c_166, if_neg c_166, if_neg c_166]; done) | (rw [if_pos c_166, if_pos c_166, if_pos c_166, if_neg c_186, if_neg c_186]; done) | (rw [if_pos c_166, if_pos c_166, if_pos c_166, if_pos c_186, if_pos c_186, if_pos c_210]; done) | (rw [if_pos c_166, if_pos c_166, if_pos c_166, if_pos c_186, if_pos c_186, if_neg c_210]; done)), (fun q n0 => ((va_up_ne _ _ n0).trans ((va_up_ne _ _ n0).trans (fL105 q n0))))⟩ dX9_advance_221
                        · skip
                          refine lv_aload_n hx hb dX9_advance_152 rfl (lv_at hl 0 rfl) ?_
                          refine lv_dup hx hb dX9_advance_153 rfl ?_
                          refine q_get (v := .int (nI x1)) (fs := tapeF ad ta ln (nI en) (nI x1) (nI x0) kd nu 0) X hK hP fX9_advance_31 h_ta mL105_0 rfl dX9_advance_154 ?_
                          refine lv_iconst (v := 1) hx hb dX9_advance_157 (by decide) ?_
                          refine lv_iadd hx hb dX9_advance_158 ?_
                          refine q_put (fs := tapeF ad ta ln (nI en) (nI x1) (nI x0) kd nu 0) (fs' := tapeF ad ta ln (nI en) ((nI x1) + 1) (nI x0) kd nu 0) X hK hI hP hS fX9_advance_31 fw_9_3 h_ta mL105_0 rfl rfl (Nat.le_of_ble_eq_true rfl) rfl dX9_advance_159 (fun H locs hP hS => ?_)
                          refine lv_goto (tgt := 105) hx hb dX9_advance_162 (by decide) ?_
                          exact ih_105 (x1 + 1) (r7 - 1) (by have := lt_of_nlt c_113 (by omega) hx1; omega) (by have := lt_of_nlt c_113 (by omega) hx1; omega) (by omega) (by omega) (by rw [← hs1]; obtain ⟨r8, hr8⟩ : ∃ r8, r7 = r8 + 1 := ⟨r7 - 1, by omega⟩; rw [hr8, show r8 + 1 - 1 = r8 by omega, rgS]; first | (rw [if_neg c_113, if_neg c_117, if_neg c_131]; done) | (rw [if_neg c_113, if_neg c_117, if_pos c_131, if_neg c_135, if_neg c_149]; done) | (rw [if_neg c_113, if_pos c_117, if_neg c_135, if_neg c_149]; done)) _ _ _ (by refine (va_up_self ML105 ta (.inr (9, tapeF ad ta ln (nI en) ((nI x1) + 1) (nI x0) kd nu 0))).trans ?_; rw [nI_succ]) (fun q n0 => ((va_up_ne _ _ n0).trans (fL105 q n0))) hP hS ls (lv_sub hl [0, 1, 2, 3] rfl)
                    · skip
                      refine lv_aload_n hx hb dX9_advance_120 rfl (lv_at hl 0 rfl) ?_
                      refine lv_aload_n hx hb dX9_advance_121 rfl (lv_at hl 0 rfl) ?_
                      refine q_get (v := .int (nI x1)) (fs := tapeF ad ta ln (nI en) (nI x1) (nI x0) kd nu 0) X hK hP fX9_advance_31 h_ta mL105_0 rfl dX9_advance_122 ?_
                      refine q_rdV (As := [.int (nI x1)]) (rest := []) (c_X9_byteAt l D cB cI cJ ad n ML105 ta 0 ln (nI en) (nI x1) (nI x0) kd nu bf (nI x1) h_ta h_ta_1 mL105_0 ((fL105 (ta + 1) (by omega)).trans m_ta_1) ) X hK hP hS hl.1 rfl gX9_advance_X9_byteAt yd_X9_byteAt ⟨Nat.le_of_ble_eq_true rfl, Nat.le_of_ble_eq_true rfl⟩ h_ta mL105_0 (ci := 9) rfl rfl (Nat.le_of_ble_eq_true rfl) ⟨Nat.zero_le _, Nat.zero_le _⟩ dX9_advance_125 ?_
                      refine q_rdS (As := [.int (s_X9_byteAt (nI en) bf (nI x1))]) (rest := []) (c_X9_isLetter l D cB cI cJ ad n ML105 (s_X9_byteAt (nI en) bf (nI x1))   ) X hK hP hS hl.1 rfl gX9_advance_X9_isLetter yd_X9_isLetter ⟨Nat.le_of_ble_eq_true rfl, Nat.le_of_ble_eq_true rfl⟩ rfl (Nat.le_of_ble_eq_true rfl) ⟨Nat.zero_le _, Nat.zero_le _⟩ dX9_advance_128 ?_
                      refine lv_if_ne (tgt := 152) hx hb dX9_advance_131 (by decide) (fun c_131 => ?_) (fun c_131 => ?_)
                      · skip
                        refine lv_aload_n hx hb dX9_advance_152 rfl (lv_at hl 0 rfl) ?_
                        refine lv_dup hx hb dX9_advance_153 rfl ?_
                        refine q_get (v := .int (nI x1)) (fs := tapeF ad ta ln (nI en) (nI x1) (nI x0) kd nu 0) X hK hP fX9_advance_31 h_ta mL105_0 rfl dX9_advance_154 ?_
                        refine lv_iconst (v := 1) hx hb dX9_advance_157 (by decide) ?_
                        refine lv_iadd hx hb dX9_advance_158 ?_
                        refine q_put (fs := tapeF ad ta ln (nI en) (nI x1) (nI x0) kd nu 0) (fs' := tapeF ad ta ln (nI en) ((nI x1) + 1) (nI x0) kd nu 0) X hK hI hP hS fX9_advance_31 fw_9_3 h_ta mL105_0 rfl rfl (Nat.le_of_ble_eq_true rfl) rfl dX9_advance_159 (fun H locs hP hS => ?_)
                        refine lv_goto (tgt := 105) hx hb dX9_advance_162 (by decide) ?_
                        exact ih_105 (x1 + 1) (r7 - 1) (by have := lt_of_nlt c_113 (by omega) hx1; omega) (by have := lt_of_nlt c_113 (by omega) hx1; omega) (by omega) (by omega) (by rw [← hs1]; obtain ⟨r8, hr8⟩ : ∃ r8, r7 = r8 + 1 := ⟨r7 - 1, by omega⟩; rw [hr8, show r8 + 1 - 1 = r8 by omega, rgS]; first | (rw [if_neg c_113, if_neg c_117, if_neg c_131]; done) | (rw [if_neg c_113, if_neg c_117, if_pos c_131, if_neg c_135, if_neg c_149]; done) | (rw [if_neg c_113, if_pos c_117, if_neg c_135, if_neg c_149]; done)) _ _ _ (by refine (va_up_self ML105 ta (.inr (9, tapeF ad ta ln (nI en) ((nI x1) + 1) (nI x0) kd nu 0))).trans ?_; rw [nI_succ]) (fun q n0 => ((va_up_ne _ _ n0).trans (fL105 q n0))) hP hS ls (lv_sub hl [0, 1, 2, 3] rfl)
                      · skip
                        refine lv_iload_n hx hb dX9_advance_134 rfl (lv_at hl 3 rfl) ?_
                        refine lv_if_eq (tgt := 165) hx hb dX9_advance_135 (by decide) (fun c_135 => ?_) (fun c_135 => ?_)
                        · skip
                          have hm1 : rgS en bf (s_X9_isLetter (s_X9_byteAt (nI en) bf (nI x0))) (s_X9_isDigit (s_X9_byteAt (nI en) bf (nI x0))) 701 (x0 + 1) = x1 := by rw [← hs1]; obtain ⟨r8, hr8⟩ : ∃ r8, r7 = r8 + 1 := ⟨r7 - 1, by omega⟩; rw [hr8, rgS]; first | (rw [if_neg c_113, if_pos c_117, if_pos c_135]; done) | (rw [if_neg c_113, if_neg c_117, if_pos c_131, if_pos c_135]; done)
                          refine lv_iload_n hx hb dX9_advance_165 rfl (lv_at hl 2 rfl) ?_
                          refine lv_if_eq (tgt := 185) hx hb dX9_advance_166 (by decide) (fun c_166 => ?_) (fun c_166 => ?_)
                          · skip
                            refine lv_iload_n hx hb dX9_advance_185 rfl (lv_at hl 3 rfl) ?_
                            refine lv_if_eq (tgt := 205) hx hb dX9_advance_186 (by decide) (fun c_186 => ?_) (fun c_186 => ?_)
                            · skip
                              refine lv_aload_n hx hb dX9_advance_205 rfl (lv_at hl 0 rfl) ?_
                              refine lv_iload_n hx hb dX9_advance_206 rfl (lv_at hl 1 rfl) ?_
                              refine q_rdS (As := [.int (s_X9_byteAt (nI en) bf (nI x0))]) (rest := [.ref (ad ta)]) (c_X9_isSign l D cB cI cJ ad n ML105 (s_X9_byteAt (nI en) bf (nI x0))   ) X hK hP hS hl.1 rfl gX9_advance_X9_isSign yd_X9_isSign ⟨Nat.le_of_ble_eq_true rfl, Nat.le_of_ble_eq_true rfl⟩ rfl (Nat.le_of_ble_eq_true rfl) ⟨Nat.zero_le _, Nat.zero_le _⟩ dX9_advance_207 ?_
                              refine lv_if_eq (tgt := 217) hx hb dX9_advance_210 (by decide) (fun c_210 => ?_) (fun c_210 => ?_)
                              · skip
                                refine lv_iconst (v := 3) hx hb dX9_advance_217 (by decide) ?_
                                refine q_put (fs := tapeF ad ta ln (nI en) (nI x1) (nI x0) kd nu 0) (fs' := tapeF ad ta ln (nI en) (nI x1) (nI x0) 3 nu 0) X hK hI hP hS fX9_advance_44 fw_9_5 h_ta mL105_0 rfl rfl (Nat.le_of_ble_eq_true rfl) rfl dX9_advance_218 (fun H locs hP hS => ?_)
                                exact q_wvret X hr hlocks hP hS ⟨(by refine (va_up_self ML105 ta (.inr (9, tapeF ad ta ln (nI en) (nI x1) (nI x0) 3 nu 0))).trans ?_; have hN : avN en bf x0 = x1 := (by rw [avN, if_neg c_76]; exact hm1); rw [hm0, avK, avU, avW, hN, if_neg c_76, if_neg c_76, if_neg c_76]; first | (rw [if_neg c_166, if_neg c_166, if_neg c_166]; done) | (rw [if_pos c_166, if_pos c_166, if_pos c_166, if_neg c_186, if_neg c_186]; done) | (rw [if_pos c_166, if_pos c_166, if_pos c_166, if_pos c_186, if_pos c_186, if_pos c_210]; done) | (rw [if_pos c_166, if_pos c_166, if_pos c_166, if_pos c_186, if_pos c_186, if_neg c_210]; done)), (fun q n0 => ((va_up_ne _ _ n0).trans (fL105 q n0)))⟩ dX9_advance_221
                              · skip
                                refine lv_iload_n hx hb dX9_advance_213 rfl (lv_at hl 1 rfl) ?_
                                refine lv_goto (tgt := 218) hx hb dX9_advance_214 (by decide) ?_
                                refine q_put (fs := tapeF ad ta ln (nI en) (nI x1) (nI x0) kd nu 0) (fs' := tapeF ad ta ln (nI en) (nI x1) (nI x0) (s_X9_byteAt (nI en) bf (nI x0)) nu 0) X hK hI hP hS fX9_advance_44 fw_9_5 h_ta mL105_0 rfl rfl (Nat.le_of_ble_eq_true rfl) rfl dX9_advance_218 (fun H locs hP hS => ?_)
                                exact q_wvret X hr hlocks hP hS ⟨(by refine (va_up_self ML105 ta (.inr (9, tapeF ad ta ln (nI en) (nI x1) (nI x0) (s_X9_byteAt (nI en) bf (nI x0)) nu 0))).trans ?_; have hN : avN en bf x0 = x1 := (by rw [avN, if_neg c_76]; exact hm1); rw [hm0, avK, avU, avW, hN, if_neg c_76, if_neg c_76, if_neg c_76]; first | (rw [if_neg c_166, if_neg c_166, if_neg c_166]; done) | (rw [if_pos c_166, if_pos c_166, if_pos c_166, if_neg c_186, if_neg c_186]; done) | (rw [if_pos c_166, if_pos c_166, if_pos c_166, if_pos c_186, if_pos c_186, if_pos c_210]; done) | (rw [if_pos c_166, if_pos c_166, if_pos c_166, if_pos c_186, if_pos c_186, if_neg c_210]; done)), (fun q n0 => ((va_up_ne _ _ n0).trans (fL105 q n0)))⟩ dX9_advance_221
                            · skip
                              refine lv_aload_n hx hb dX9_advance_189 rfl (lv_at hl 0 rfl) ?_
                              refine lv_iconst (v := 2) hx hb dX9_advance_190 (by decide) ?_
                              refine q_put (fs := tapeF ad ta ln (nI en) (nI x1) (nI x0) kd nu 0) (fs' := tapeF ad ta ln (nI en) (nI x1) (nI x0) 2 nu 0) X hK hI hP hS fX9_advance_44 fw_9_5 h_ta mL105_0 rfl rfl (Nat.le_of_ble_eq_true rfl) rfl dX9_advance_191 (fun H locs hP hS => ?_)
                              refine lv_aload_n hx hb dX9_advance_194 rfl (lv_at hl 0 rfl) ?_
                              refine lv_aload_n hx hb dX9_advance_195 rfl (lv_at hl 0 rfl) ?_
                              refine q_rdV (As := []) (rest := [.ref (ad ta)]) (c_X9_findNumber l D cB cI cJ ad n (va_up ML105 ta (.inr (9, tapeF ad ta ln (nI en) (nI x1) (nI x0) 2 nu 0))) ta en x1 x0 0 ln 2 nu bf h_ta h_ta_1 (va_up_self ML105 ta (.inr (9, tapeF ad ta ln (nI en) (nI x1) (nI x0) 2 nu 0))) ((va_up_ne ML105 (.inr (9, tapeF ad ta ln (nI en) (nI x1) (nI x0) 2 nu 0)) (show ta + 1 ≠ ta by omega)).trans ((fL105 (ta + 1) (by omega)).trans m_ta_1)) (by first | assumption | omega | exact vp_in_nI (by omega) (by decide) | exact vp_in_iff.mpr (by decide)) (by first | assumption | omega | exact vp_in_nI (by omega) (by decide) | exact vp_in_iff.mpr (by decide))) X hK hP hS hl.1 rfl gX9_advance_X9_findNumber yd_X9_findNumber ⟨Nat.le_of_ble_eq_true rfl, Nat.le_of_ble_eq_true rfl⟩ h_ta (va_up_self ML105 ta (.inr (9, tapeF ad ta ln (nI en) (nI x1) (nI x0) 2 nu 0))) (ci := 9) rfl rfl (Nat.le_of_ble_eq_true rfl) ⟨Nat.zero_le _, Nat.zero_le _⟩ dX9_advance_196 ?_
                              refine q_put (fs := tapeF ad ta ln (nI en) (nI x1) (nI x0) 2 nu 0) (fs' := tapeF ad ta ln (nI en) (nI x1) (nI x0) 2 (fnS (nI en) bf x0 x1) 0) X hK hI hP hS fX9_advance_62 fw_9_6 h_ta (va_up_self ML105 ta (.inr (9, tapeF ad ta ln (nI en) (nI x1) (nI x0) 2 nu 0))) rfl rfl (Nat.le_of_ble_eq_true rfl) rfl dX9_advance_199 (fun H locs hP hS => ?_)
                              refine lv_goto (tgt := 221) hx hb dX9_advance_202 (by decide) ?_
                              exact q_wvret X hr hlocks hP hS ⟨(by refine (va_up_self (va_up ML105 ta (.inr (9, tapeF ad ta ln (nI en) (nI x1) (nI x0) 2 nu 0))) ta (.inr (9, tapeF ad ta ln (nI en) (nI x1) (nI x0) 2 (fnS (nI en) bf x0 x1) 0))).trans ?_; have hN : avN en bf x0 = x1 := (by rw [avN, if_neg c_76]; exact hm1); rw [hm0, avK, avU, avW, hN, if_neg c_76, if_neg c_76, if_neg c_76]; first | (rw [if_neg c_166, if_neg c_166, if_neg c_166]; done) | (rw [if_pos c_166, if_pos c_166, if_pos c_166, if_neg c_186, if_neg c_186]; done) | (rw [if_pos c_166, if_pos c_166, if_pos c_166, if_pos c_186, if_pos c_186, if_pos c_210]; done) | (rw [if_pos c_166, if_pos c_166, if_pos c_166, if_pos c_186, if_pos c_186, if_neg c_210]; done)), (fun q n0 => ((va_up_ne _ _ n0).trans ((va_up_ne _ _ n0).trans (fL105 q n0))))⟩ dX9_advance_221
                          · skip
                            refine lv_aload_n hx hb dX9_advance_169 rfl (lv_at hl 0 rfl) ?_
                            refine lv_iconst (v := 1) hx hb dX9_advance_170 (by decide) ?_
                            refine q_put (fs := tapeF ad ta ln (nI en) (nI x1) (nI x0) kd nu 0) (fs' := tapeF ad ta ln (nI en) (nI x1) (nI x0) 1 nu 0) X hK hI hP hS fX9_advance_44 fw_9_5 h_ta mL105_0 rfl rfl (Nat.le_of_ble_eq_true rfl) rfl dX9_advance_171 (fun H locs hP hS => ?_)
                            refine lv_aload_n hx hb dX9_advance_174 rfl (lv_at hl 0 rfl) ?_
                            refine lv_aload_n hx hb dX9_advance_175 rfl (lv_at hl 0 rfl) ?_
                            refine q_rdVe (As := []) (rest := [.ref (ad ta)]) (c_X9_findWord l D cB cI cJ ad n (va_up ML105 ta (.inr (9, tapeF ad ta ln (nI en) (nI x1) (nI x0) 1 nu 0))) ta en x1 x0 0 ln 1 nu bf h_ta h_ta_1 (va_up_self ML105 ta (.inr (9, tapeF ad ta ln (nI en) (nI x1) (nI x0) 1 nu 0))) ((va_up_ne ML105 (.inr (9, tapeF ad ta ln (nI en) (nI x1) (nI x0) 1 nu 0)) (show ta + 1 ≠ ta by omega)).trans ((fL105 (ta + 1) (by omega)).trans m_ta_1)) (by first | assumption | omega | exact vp_in_nI (by omega) (by decide) | exact vp_in_iff.mpr (by decide)) (by first | assumption | omega | exact vp_in_nI (by omega) (by decide) | exact vp_in_iff.mpr (by decide))) X hK hP hS hl.1 rfl gX9_advance_X9_findWord yd_X9_findWord ⟨Nat.le_of_ble_eq_true rfl, Nat.le_of_ble_eq_true rfl⟩ h_ta (va_up_self ML105 ta (.inr (9, tapeF ad ta ln (nI en) (nI x1) (nI x0) 1 nu 0))) (ci := 9) rfl rfl (Nat.le_of_ble_eq_true rfl) ⟨Nat.zero_le _, Nat.zero_le _⟩ dX9_advance_176 ?_
                            refine q_put (fs := tapeF ad ta ln (nI en) (nI x1) (nI x0) 1 nu 0) (fs' := tapeF ad ta ln (nI en) (nI x1) (nI x0) 1 nu (fwS (nI en) bf (nI x0) (nI x1 - nI x0) 20 0)) X hK hI hP hS fX9_advance_21 fw_9_7 h_ta (va_up_self ML105 ta (.inr (9, tapeF ad ta ln (nI en) (nI x1) (nI x0) 1 nu 0))) rfl rfl (Nat.le_of_ble_eq_true rfl) rfl dX9_advance_179 (fun H locs hP hS => ?_)
                            refine lv_goto (tgt := 221) hx hb dX9_advance_182 (by decide) ?_
                            exact q_wvret X hr hlocks hP hS ⟨(by refine (va_up_self (va_up ML105 ta (.inr (9, tapeF ad ta ln (nI en) (nI x1) (nI x0) 1 nu 0))) ta (.inr (9, tapeF ad ta ln (nI en) (nI x1) (nI x0) 1 nu (fwS (nI en) bf (nI x0) (nI x1 - nI x0) 20 0)))).trans ?_; have hN : avN en bf x0 = x1 := (by rw [avN, if_neg c_76]; exact hm1); rw [hm0, avK, avU, avW, hN, if_neg c_76, if_neg c_76, if_neg c_76]; first | (rw [if_neg c_166, if_neg c_166, if_neg c_166]; done) | (rw [if_pos c_166, if_pos c_166, if_pos c_166, if_neg c_186, if_neg c_186]; done) | (rw [if_pos c_166, if_pos c_166, if_pos c_166, if_pos c_186, if_pos c_186, if_pos c_210]; done) | (rw [if_pos c_166, if_pos c_166, if_pos c_166, if_pos c_186, if_pos c_186, if_neg c_210]; done)), (fun q n0 => ((va_up_ne _ _ n0).trans ((va_up_ne _ _ n0).trans (fL105 q n0))))⟩ dX9_advance_221
                        · skip
                          refine lv_aload_n hx hb dX9_advance_138 rfl (lv_at hl 0 rfl) ?_
                          refine lv_aload_n hx hb dX9_advance_139 rfl (lv_at hl 0 rfl) ?_
                          refine q_get (v := .int (nI x1)) (fs := tapeF ad ta ln (nI en) (nI x1) (nI x0) kd nu 0) X hK hP fX9_advance_31 h_ta mL105_0 rfl dX9_advance_140 ?_
                          refine q_rdV (As := [.int (nI x1)]) (rest := []) (c_X9_byteAt l D cB cI cJ ad n ML105 ta 0 ln (nI en) (nI x1) (nI x0) kd nu bf (nI x1) h_ta h_ta_1 mL105_0 ((fL105 (ta + 1) (by omega)).trans m_ta_1) ) X hK hP hS hl.1 rfl gX9_advance_X9_byteAt yd_X9_byteAt ⟨Nat.le_of_ble_eq_true rfl, Nat.le_of_ble_eq_true rfl⟩ h_ta mL105_0 (ci := 9) rfl rfl (Nat.le_of_ble_eq_true rfl) ⟨Nat.zero_le _, Nat.zero_le _⟩ dX9_advance_143 ?_
                          refine q_rdS (As := [.int (s_X9_byteAt (nI en) bf (nI x1))]) (rest := []) (c_X9_isDigit l D cB cI cJ ad n ML105 (s_X9_byteAt (nI en) bf (nI x1))   ) X hK hP hS hl.1 rfl gX9_advance_X9_isDigit yd_X9_isDigit ⟨Nat.le_of_ble_eq_true rfl, Nat.le_of_ble_eq_true rfl⟩ rfl (Nat.le_of_ble_eq_true rfl) ⟨Nat.zero_le _, Nat.zero_le _⟩ dX9_advance_146 ?_
                          refine lv_if_eq (tgt := 165) hx hb dX9_advance_149 (by decide) (fun c_149 => ?_) (fun c_149 => ?_)
                          · skip
                            have hm1 : rgS en bf (s_X9_isLetter (s_X9_byteAt (nI en) bf (nI x0))) (s_X9_isDigit (s_X9_byteAt (nI en) bf (nI x0))) 701 (x0 + 1) = x1 := by rw [← hs1]; obtain ⟨r8, hr8⟩ : ∃ r8, r7 = r8 + 1 := ⟨r7 - 1, by omega⟩; rw [hr8, rgS]; first | (rw [if_neg c_113, if_pos c_117, if_neg c_135, if_pos c_149]; done) | (rw [if_neg c_113, if_neg c_117, if_pos c_131, if_neg c_135, if_pos c_149]; done)
                            refine lv_iload_n hx hb dX9_advance_165 rfl (lv_at hl 2 rfl) ?_
                            refine lv_if_eq (tgt := 185) hx hb dX9_advance_166 (by decide) (fun c_166 => ?_) (fun c_166 => ?_)
                            · skip
                              refine lv_iload_n hx hb dX9_advance_185 rfl (lv_at hl 3 rfl) ?_
                              refine lv_if_eq (tgt := 205) hx hb dX9_advance_186 (by decide) (fun c_186 => ?_) (fun c_186 => ?_)
                              · skip
                                refine lv_aload_n hx hb dX9_advance_205 rfl (lv_at hl 0 rfl) ?_
                                refine lv_iload_n hx hb dX9_advance_206 rfl (lv_at hl 1 rfl) ?_
                                refine q_rdS (As := [.int (s_X9_byteAt (nI en) bf (nI x0))]) (rest := [.ref (ad ta)]) (c_X9_isSign l D cB cI cJ ad n ML105 (s_X9_byteAt (nI en) bf (nI x0))   ) X hK hP hS hl.1 rfl gX9_advance_X9_isSign yd_X9_isSign ⟨Nat.le_of_ble_eq_true rfl, Nat.le_of_ble_eq_true rfl⟩ rfl (Nat.le_of_ble_eq_true rfl) ⟨Nat.zero_le _, Nat.zero_le _⟩ dX9_advance_207 ?_
                                refine lv_if_eq (tgt := 217) hx hb dX9_advance_210 (by decide) (fun c_210 => ?_) (fun c_210 => ?_)
                                · skip
                                  refine lv_iconst (v := 3) hx hb dX9_advance_217 (by decide) ?_
                                  refine q_put (fs := tapeF ad ta ln (nI en) (nI x1) (nI x0) kd nu 0) (fs' := tapeF ad ta ln (nI en) (nI x1) (nI x0) 3 nu 0) X hK hI hP hS fX9_advance_44 fw_9_5 h_ta mL105_0 rfl rfl (Nat.le_of_ble_eq_true rfl) rfl dX9_advance_218 (fun H locs hP hS => ?_)
                                  exact q_wvret X hr hlocks hP hS ⟨(by refine (va_up_self ML105 ta (.inr (9, tapeF ad ta ln (nI en) (nI x1) (nI x0) 3 nu 0))).trans ?_; have hN : avN en bf x0 = x1 := (by rw [avN, if_neg c_76]; exact hm1); rw [hm0, avK, avU, avW, hN, if_neg c_76, if_neg c_76, if_neg c_76]; first | (rw [if_neg c_166, if_neg c_166, if_neg c_166]; done) | (rw [if_pos c_166, if_pos c_166, if_pos c_166, if_neg c_186, if_neg c_186]; done) | (rw [if_pos c_166, if_pos c_166, if_pos c_166, if_pos c_186, if_pos c_186, if_pos c_210]; done) | (rw [if_pos c_166, if_pos c_166, if_pos c_166, if_pos c_186, if_pos c_186, if_neg c_210]; done)), (fun q n0 => ((va_up_ne _ _ n0).trans (fL105 q n0)))⟩ dX9_advance_221
                                · skip
                                  refine lv_iload_n hx hb dX9_advance_213 rfl (lv_at hl 1 rfl) ?_
                                  refine lv_goto (tgt := 218) hx hb dX9_advance_214 (by decide) ?_
                                  refine q_put (fs := tapeF ad ta ln (nI en) (nI x1) (nI x0) kd nu 0) (fs' := tapeF ad ta ln (nI en) (nI x1) (nI x0) (s_X9_byteAt (nI en) bf (nI x0)) nu 0) X hK hI hP hS fX9_advance_44 fw_9_5 h_ta mL105_0 rfl rfl (Nat.le_of_ble_eq_true rfl) rfl dX9_advance_218 (fun H locs hP hS => ?_)
                                  exact q_wvret X hr hlocks hP hS ⟨(by refine (va_up_self ML105 ta (.inr (9, tapeF ad ta ln (nI en) (nI x1) (nI x0) (s_X9_byteAt (nI en) bf (nI x0)) nu 0))).trans ?_; have hN : avN en bf x0 = x1 := (by rw [avN, if_neg c_76]; exact hm1); rw [hm0, avK, avU, avW, hN, if_neg c_76, if_neg c_76, if_neg c_76]; first | (rw [if_neg c_166, if_neg c_166, if_neg c_166]; done) | (rw [if_pos c_166, if_pos c_166, if_pos c_166, if_neg c_186, if_neg c_186]; done) | (rw [if_pos c_166, if_pos c_166, if_pos c_166, if_pos c_186, if_pos c_186, if_pos c_210]; done) | (rw [if_pos c_166, if_pos c_166, if_pos c_166, if_pos c_186, if_pos c_186, if_neg c_210]; done)), (fun q n0 => ((va_up_ne _ _ n0).trans (fL105 q n0)))⟩ dX9_advance_221
                              · skip
                                refine lv_aload_n hx hb dX9_advance_189 rfl (lv_at hl 0 rfl) ?_
                                refine lv_iconst (v := 2) hx hb dX9_advance_190 (by decide) ?_
                                refine q_put (fs := tapeF ad ta ln (nI en) (nI x1) (nI x0) kd nu 0) (fs' := tapeF ad ta ln (nI en) (nI x1) (nI x0) 2 nu 0) X hK hI hP hS fX9_advance_44 fw_9_5 h_ta mL105_0 rfl rfl (Nat.le_of_ble_eq_true rfl) rfl dX9_advance_191 (fun H locs hP hS => ?_)
                                refine lv_aload_n hx hb dX9_advance_194 rfl (lv_at hl 0 rfl) ?_
                                refine lv_aload_n hx hb dX9_advance_195 rfl (lv_at hl 0 rfl) ?_
                                refine q_rdV (As := []) (rest := [.ref (ad ta)]) (c_X9_findNumber l D cB cI cJ ad n (va_up ML105 ta (.inr (9, tapeF ad ta ln (nI en) (nI x1) (nI x0) 2 nu 0))) ta en x1 x0 0 ln 2 nu bf h_ta h_ta_1 (va_up_self ML105 ta (.inr (9, tapeF ad ta ln (nI en) (nI x1) (nI x0) 2 nu 0))) ((va_up_ne ML105 (.inr (9, tapeF ad ta ln (nI en) (nI x1) (nI x0) 2 nu 0)) (show ta + 1 ≠ ta by omega)).trans ((fL105 (ta + 1) (by omega)).trans m_ta_1)) (by first | assumption | omega | exact vp_in_nI (by omega) (by decide) | exact vp_in_iff.mpr (by decide)) (by first | assumption | omega | exact vp_in_nI (by omega) (by decide) | exact vp_in_iff.mpr (by decide))) X hK hP hS hl.1 rfl gX9_advance_X9_findNumber yd_X9_findNumber ⟨Nat.le_of_ble_eq_true rfl, Nat.le_of_ble_eq_true rfl⟩ h_ta (va_up_self ML105 ta (.inr (9, tapeF ad ta ln (nI en) (nI x1) (nI x0) 2 nu 0))) (ci := 9) rfl rfl (Nat.le_of_ble_eq_true rfl) ⟨Nat.zero_le _, Nat.zero_le _⟩ dX9_advance_196 ?_
                                refine q_put (fs := tapeF ad ta ln (nI en) (nI x1) (nI x0) 2 nu 0) (fs' := tapeF ad ta ln (nI en) (nI x1) (nI x0) 2 (fnS (nI en) bf x0 x1) 0) X hK hI hP hS fX9_advance_62 fw_9_6 h_ta (va_up_self ML105 ta (.inr (9, tapeF ad ta ln (nI en) (nI x1) (nI x0) 2 nu 0))) rfl rfl (Nat.le_of_ble_eq_true rfl) rfl dX9_advance_199 (fun H locs hP hS => ?_)
                                refine lv_goto (tgt := 221) hx hb dX9_advance_202 (by decide) ?_
                                exact q_wvret X hr hlocks hP hS ⟨(by refine (va_up_self (va_up ML105 ta (.inr (9, tapeF ad ta ln (nI en) (nI x1) (nI x0) 2 nu 0))) ta (.inr (9, tapeF ad ta ln (nI en) (nI x1) (nI x0) 2 (fnS (nI en) bf x0 x1) 0))).trans ?_; have hN : avN en bf x0 = x1 := (by rw [avN, if_neg c_76]; exact hm1); rw [hm0, avK, avU, avW, hN, if_neg c_76, if_neg c_76, if_neg c_76]; first | (rw [if_neg c_166, if_neg c_166, if_neg c_166]; done) | (rw [if_pos c_166, if_pos c_166, if_pos c_166, if_neg c_186, if_neg c_186]; done) | (rw [if_pos c_166, if_pos c_166, if_pos c_166, if_pos c_186, if_pos c_186, if_pos c_210]; done) | (rw [if_pos c_166, if_pos c_166, if_pos c_166, if_pos c_186, if_pos c_186, if_neg c_210]; done)), (fun q n0 => ((va_up_ne _ _ n0).trans ((va_up_ne _ _ n0).trans (fL105 q n0))))⟩ dX9_advance_221
                            · skip
                              refine lv_aload_n hx hb dX9_advance_169 rfl (lv_at hl 0 rfl) ?_
                              refine lv_iconst (v := 1) hx hb dX9_advance_170 (by decide) ?_
                              refine q_put (fs := tapeF ad ta ln (nI en) (nI x1) (nI x0) kd nu 0) (fs' := tapeF ad ta ln (nI en) (nI x1) (nI x0) 1 nu 0) X hK hI hP hS fX9_advance_44 fw_9_5 h_ta mL105_0 rfl rfl (Nat.le_of_ble_eq_true rfl) rfl dX9_advance_171 (fun H locs hP hS => ?_)
                              refine lv_aload_n hx hb dX9_advance_174 rfl (lv_at hl 0 rfl) ?_
                              refine lv_aload_n hx hb dX9_advance_175 rfl (lv_at hl 0 rfl) ?_
                              refine q_rdVe (As := []) (rest := [.ref (ad ta)]) (c_X9_findWord l D cB cI cJ ad n (va_up ML105 ta (.inr (9, tapeF ad ta ln (nI en) (nI x1) (nI x0) 1 nu 0))) ta en x1 x0 0 ln 1 nu bf h_ta h_ta_1 (va_up_self ML105 ta (.inr (9, tapeF ad ta ln (nI en) (nI x1) (nI x0) 1 nu 0))) ((va_up_ne ML105 (.inr (9, tapeF ad ta ln (nI en) (nI x1) (nI x0) 1 nu 0)) (show ta + 1 ≠ ta by omega)).trans ((fL105 (ta + 1) (by omega)).trans m_ta_1)) (by first | assumption | omega | exact vp_in_nI (by omega) (by decide) | exact vp_in_iff.mpr (by decide)) (by first | assumption | omega | exact vp_in_nI (by omega) (by decide) | exact vp_in_iff.mpr (by decide))) X hK hP hS hl.1 rfl gX9_advance_X9_findWord yd_X9_findWord ⟨Nat.le_of_ble_eq_true rfl, Nat.le_of_ble_eq_true rfl⟩ h_ta (va_up_self ML105 ta (.inr (9, tapeF ad ta ln (nI en) (nI x1) (nI x0) 1 nu 0))) (ci := 9) rfl rfl (Nat.le_of_ble_eq_true rfl) ⟨Nat.zero_le _, Nat.zero_le _⟩ dX9_advance_176 ?_
                              refine q_put (fs := tapeF ad ta ln (nI en) (nI x1) (nI x0) 1 nu 0) (fs' := tapeF ad ta ln (nI en) (nI x1) (nI x0) 1 nu (fwS (nI en) bf (nI x0) (nI x1 - nI x0) 20 0)) X hK hI hP hS fX9_advance_21 fw_9_7 h_ta (va_up_self ML105 ta (.inr (9, tapeF ad ta ln (nI en) (nI x1) (nI x0) 1 nu 0))) rfl rfl (Nat.le_of_ble_eq_true rfl) rfl dX9_advance_179 (fun H locs hP hS => ?_)
                              refine lv_goto (tgt := 221) hx hb dX9_advance_182 (by decide) ?_
                              exact q_wvret X hr hlocks hP hS ⟨(by refine (va_up_self (va_up ML105 ta (.inr (9, tapeF ad ta ln (nI en) (nI x1) (nI x0) 1 nu 0))) ta (.inr (9, tapeF ad ta ln (nI en) (nI x1) (nI x0) 1 nu (fwS (nI en) bf (nI x0) (nI x1 - nI x0) 20 0)))).trans ?_; have hN : avN en bf x0 = x1 := (by rw [avN, if_neg c_76]; exact hm1); rw [hm0, avK, avU, avW, hN, if_neg c_76, if_neg c_76, if_neg c_76]; first | (rw [if_neg c_166, if_neg c_166, if_neg c_166]; done) | (rw [if_pos c_166, if_pos c_166, if_pos c_166, if_neg c_186, if_neg c_186]; done) | (rw [if_pos c_166, if_pos c_166, if_pos c_166, if_pos c_186, if_pos c_186, if_pos c_210]; done) | (rw [if_pos c_166, if_pos c_166, if_pos c_166, if_pos c_186, if_pos c_186, if_neg c_210]; done)), (fun q n0 => ((va_up_ne _ _ n0).trans ((va_up_ne _ _ n0).trans (fL105 q n0))))⟩ dX9_advance_221
                          · skip
                            refine lv_aload_n hx hb dX9_advance_152 rfl (lv_at hl 0 rfl) ?_
                            refine lv_dup hx hb dX9_advance_153 rfl ?_
                            refine q_get (v := .int (nI x1)) (fs := tapeF ad ta ln (nI en) (nI x1) (nI x0) kd nu 0) X hK hP fX9_advance_31 h_ta mL105_0 rfl dX9_advance_154 ?_
                            refine lv_iconst (v := 1) hx hb dX9_advance_157 (by decide) ?_
                            refine lv_iadd hx hb dX9_advance_158 ?_
                            refine q_put (fs := tapeF ad ta ln (nI en) (nI x1) (nI x0) kd nu 0) (fs' := tapeF ad ta ln (nI en) ((nI x1) + 1) (nI x0) kd nu 0) X hK hI hP hS fX9_advance_31 fw_9_3 h_ta mL105_0 rfl rfl (Nat.le_of_ble_eq_true rfl) rfl dX9_advance_159 (fun H locs hP hS => ?_)
                            refine lv_goto (tgt := 105) hx hb dX9_advance_162 (by decide) ?_
                            exact ih_105 (x1 + 1) (r7 - 1) (by have := lt_of_nlt c_113 (by omega) hx1; omega) (by have := lt_of_nlt c_113 (by omega) hx1; omega) (by omega) (by omega) (by rw [← hs1]; obtain ⟨r8, hr8⟩ : ∃ r8, r7 = r8 + 1 := ⟨r7 - 1, by omega⟩; rw [hr8, show r8 + 1 - 1 = r8 by omega, rgS]; first | (rw [if_neg c_113, if_neg c_117, if_neg c_131]; done) | (rw [if_neg c_113, if_neg c_117, if_pos c_131, if_neg c_135, if_neg c_149]; done) | (rw [if_neg c_113, if_pos c_117, if_neg c_135, if_neg c_149]; done)) _ _ _ (by refine (va_up_self ML105 ta (.inr (9, tapeF ad ta ln (nI en) ((nI x1) + 1) (nI x0) kd nu 0))).trans ?_; rw [nI_succ]) (fun q n0 => ((va_up_ne _ _ n0).trans (fL105 q n0))) hP hS ls (lv_sub hl [0, 1, 2, 3] rfl)
              exact loop_105 (702) (x0 + 1) 701 (by omega) (by have := bA_lt hen (by omega) c_76; omega) (by omega) (by omega) (by rfl) _ _ _ (by refine (va_up_self (va_up (va_up ML0 ta (.inr (9, tapeF ad ta ln (nI en) (nI x0) (nI x0) kd nu wo))) ta (.inr (9, tapeF ad ta ln (nI en) (nI x0) (nI x0) kd nu 0))) ta (.inr (9, tapeF ad ta ln (nI en) ((nI x0) + 1) (nI x0) kd nu 0))).trans ?_; rw [nI_succ]) (fun q n0 => ((va_up_ne _ _ n0).trans ((va_up_ne _ _ n0).trans ((va_up_ne _ _ n0).trans (fL0 q n0))))) hP hS ls (lv_sub hl [3, 2, 1, 0] rfl)
            · skip
              refine lv_aload_n hx hb dX9_advance_79 rfl (lv_at hl 1 rfl) ?_
              refine lv_iconst (v := 0) hx hb dX9_advance_80 (by decide) ?_
              refine q_put (fs := tapeF ad ta ln (nI en) (nI x0) (nI x0) kd nu 0) (fs' := tapeF ad ta ln (nI en) (nI x0) (nI x0) 0 nu 0) X hK hI hP hS fX9_advance_44 fw_9_5 h_ta (va_up_self (va_up ML0 ta (.inr (9, tapeF ad ta ln (nI en) (nI x0) (nI x0) kd nu wo))) ta (.inr (9, tapeF ad ta ln (nI en) (nI x0) (nI x0) kd nu 0))) rfl rfl (Nat.le_of_ble_eq_true rfl) rfl dX9_advance_81 (fun H locs hP hS => ?_)
              exact q_wvret X hr hlocks hP hS ⟨(by refine (va_up_self (va_up (va_up ML0 ta (.inr (9, tapeF ad ta ln (nI en) (nI x0) (nI x0) kd nu wo))) ta (.inr (9, tapeF ad ta ln (nI en) (nI x0) (nI x0) kd nu 0))) ta (.inr (9, tapeF ad ta ln (nI en) (nI x0) (nI x0) 0 nu 0))).trans ?_; rw [hm0]; simp only [avN, avK, avU, avW, if_pos c_76]), (fun q n0 => ((va_up_ne _ _ n0).trans ((va_up_ne _ _ n0).trans ((va_up_ne _ _ n0).trans (fL0 q n0)))))⟩ dX9_advance_84
          · skip
            refine lv_aload_n hx hb dX9_advance_37 rfl (lv_at hl 0 rfl) ?_
            refine lv_dup hx hb dX9_advance_38 rfl ?_
            refine q_get (v := .int (nI x0)) (fs := tapeF ad ta ln (nI en) (nI x0) pl kd nu wo) X hK hP fX9_advance_31 h_ta mL0_0 rfl dX9_advance_39 ?_
            refine lv_iconst (v := 1) hx hb dX9_advance_42 (by decide) ?_
            refine lv_iadd hx hb dX9_advance_43 ?_
            refine q_put (fs := tapeF ad ta ln (nI en) (nI x0) pl kd nu wo) (fs' := tapeF ad ta ln (nI en) ((nI x0) + 1) pl kd nu wo) X hK hI hP hS fX9_advance_31 fw_9_3 h_ta mL0_0 rfl rfl (Nat.le_of_ble_eq_true rfl) rfl dX9_advance_44 (fun H locs hP hS => ?_)
            refine lv_goto (tgt := 0) hx hb dX9_advance_47 (by decide) ?_
            exact ih_0 (x0 + 1) (r9 - 1) (by have := lt_of_nlt c_8 (by omega) hx0; omega) (by have := lt_of_nlt c_8 (by omega) hx0; omega) (by omega) (by rw [← hs0]; obtain ⟨r8, hr8⟩ : ∃ r8, r9 = r8 + 1 := ⟨r9 - 1, by omega⟩; rw [hr8, show r8 + 1 - 1 = r8 by omega, skS]; first | (rw [if_neg c_8, if_pos c_21]; done) | (rw [if_neg c_8, if_neg c_21, if_pos c_34]; done)) _ _ _ (by refine (va_up_self ML0 ta (.inr (9, tapeF ad ta ln (nI en) ((nI x0) + 1) pl kd nu wo))).trans ?_; rw [nI_succ]) (fun q n0 => ((va_up_ne _ _ n0).trans (fL0 q n0))) hP hS ls (lv_sub hl [0] rfl)
  exact loop_0 (701) nx 701 (by omega) (by omega) (by omega) (by rfl) _ _ _ m_ta (fun q n0 => rfl) hP hS ls (lv_sub hl [0] rfl)
