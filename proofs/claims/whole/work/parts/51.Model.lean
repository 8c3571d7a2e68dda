/-! PoundsOverModel -/
def modF (ad : Nat → Nat) (mb : Nat) (mv : Nat → Int32) : List Value := [.ref (ad (mb + 1)), .ref (ad (mb + 2)), .int (mv 2), .ref (ad (mb + 3)), .ref (ad (mb + 4)), .ref (ad (mb + 5)), .ref (ad (mb + 6)), .ref (ad (mb + 7)), .ref (ad (mb + 8)), .ref (ad (mb + 9)), .ref (ad (mb + 10)), .ref (ad (mb + 11)), .ref (ad (mb + 12)), .ref (ad (mb + 13)), .ref (ad (mb + 14)), .ref (ad (mb + 15)), .ref (ad (mb + 16)), .ref (ad (mb + 17)), .ref (ad (mb + 18)), .ref (ad (mb + 19)), .ref (ad (mb + 20)), .ref (ad (mb + 21)), .ref (ad (mb + 22)), .ref (ad (mb + 23)), .int (mv 24), .int (mv 25), .int (mv 26), .int (mv 27), .int (mv 28), .int (mv 29), .int (mv 30), .int (mv 31), .int (mv 32), .int (mv 33), .ref (ad (mb + 24)), .ref (ad (mb + 25)), .int (mv 36), .int (mv 37), .int (mv 38), .ref (ad (mb + 26)), .ref (ad (mb + 27)), .ref (ad (mb + 28)), .ref (ad (mb + 29)), .ref (ad (mb + 30)), .ref (ad (mb + 31)), .int (mv 45), .int (mv 46), .int (mv 47), .int (mv 48), .ref (ad (mb + 32)), .ref (ad (mb + 33)), .ref (ad (mb + 34)), .ref (ad (mb + 35)), .int (mv 53), .ref (ad (mb + 36)), .ref (ad (mb + 37)), .int (mv 56), .int (mv 57), .int (mv 58), .int (mv 59), .ref (ad (mb + 38)), .ref (ad (mb + 39)), .ref (ad (mb + 40)), .ref (ad (mb + 41)), .ref (ad (mb + 42)), .ref (ad (mb + 43)), .ref (ad (mb + 44))]
set_option maxRecDepth 20000 in
theorem fX13_thrown_173 : FL wsX13_thrown RX13 173 12 2 := ⟨RX13, TX13, 67, rfl, by decide +kernel, by decide, by decide +kernel⟩
def s_X13_thrown (mv : Nat → Int32) : Int32 := (mv 2)
set_option maxHeartbeats 4000000 in
set_option maxRecDepth 100000 in
theorem c_X13_thrown (l : Launch) (D : va_G) (cB cI cJ : ClassId) (ad : Nat → Nat) (n : Nat) (M : Nat → va_E) (mb : Nat) (mv : Nat → Int32) (h_mb : mb < n) (m_mb : M mb = .inr (12, modF ad mb mv))  : cR l D cB cI cJ ad n M yX13_thrown wsX13_thrown 0 0 [.ref (ad mb)] (s_X13_thrown mv) := by
  refine q_body (cc := cX13_thrown) (maxL := 1) (ret := (some .int)) (by decide) rfl (Nat.le_of_ble_eq_true rfl) ?_
  intro p e s m args below meth c ls X hr hlocks hK hP hl
  obtain ⟨hx, hb, hml, hown, hts⟩ := id X
  have hS : va_S (ipA ad n) s.heap s.heap [] := va_S.rf
  have hl : lv_has ls 1 [(0, .ref (ad mb))] := hl
  refine lv_aload_n hx hb dX13_thrown_0 rfl (lv_at hl 0 rfl) ?_
  refine q_get (v := .int (mv 2)) (fs := modF ad mb mv) X hK hP fX13_thrown_173 h_mb m_mb rfl dX13_thrown_1 ?_
  exact q_iret hb hx hr hlocks (by rfl) dX13_thrown_4
set_option maxRecDepth 20000 in
theorem fX13_fail_173 : FL wsX13_fail RX13 173 12 2 := ⟨RX13, TX13, 67, rfl, by decide +kernel, by decide, by decide +kernel⟩
theorem fw_12_2 : FW 12 2 .int := ⟨RX13, TX13, 67, tyX13, rfl, tyX13_ok, nmX13, by decide, rfl, by decide +kernel⟩
def s_X13_fail : Int32 := 0
set_option maxHeartbeats 4000000 in
set_option maxRecDepth 100000 in
theorem c_X13_fail (l : Launch) (D : va_G) (cB cI cJ : ClassId) (ad : Nat → Nat) (n : Nat) (M : Nat → va_E) (hI : ipI ad n) (mb : Nat) (mv : Nat → Int32) (x : Int32) (h_mb : mb < n) (m_mb : M mb = .inr (12, modF ad mb mv))  : cWi l D cB cI cJ ad n M yX13_fail wsX13_fail 0 0 [.ref (ad mb), .int x] (fun r M' => r = s_X13_fail ∧ M' mb = .inr (12, modF ad mb (upd mv 2 x)) ∧ ∀ q : Nat, q ≠ mb → M' q = M q) := by
  refine q_body (cc := cX13_fail) (maxL := 2) (ret := (some .int)) (by decide) rfl (Nat.le_of_ble_eq_true rfl) ?_
  intro p e s m args below meth c ls X hr hlocks hK hP hl
  obtain ⟨hx, hb, hml, hown, hts⟩ := id X
  have hS : va_S (ipA ad n) s.heap s.heap [] := va_S.rf
  have hl : lv_has ls 2 [(0, .ref (ad mb)), (1, .int x)] := hl
  refine lv_aload_n hx hb dX13_fail_0 rfl (lv_at hl 0 rfl) ?_
  refine lv_iload_n hx hb dX13_fail_1 rfl (lv_at hl 1 rfl) ?_
  refine q_put (fs := modF ad mb mv) (fs' := modF ad mb (upd mv 2 x)) X hK hI hP hS fX13_fail_173 fw_12_2 h_mb m_mb rfl rfl (Nat.le_of_ble_eq_true rfl) rfl dX13_fail_2 (fun H locs hP hS => ?_)
  refine lv_iconst (v := 0) hx hb dX13_fail_5 (by decide) ?_
  exact q_wzret X hr hlocks hP hS (rfl) ⟨(by rfl), (va_up_self M mb (.inr (12, modF ad mb (upd mv 2 x)))), (fun q n0 => (va_up_ne _ _ n0))⟩ dX13_fail_6
def s_X13_isIn (x : Int64) (y : Int64) (z : Int64) : Int32 := if x < y then 0 else if z < x then 0 else 1
set_option maxHeartbeats 4000000 in
set_option maxRecDepth 100000 in
theorem c_X13_isIn (l : Launch) (D : va_G) (cB cI cJ : ClassId) (ad : Nat → Nat) (n : Nat) (M : Nat → va_E) (x : Int64) (y : Int64) (z : Int64)    : cR l D cB cI cJ ad n M yX13_isIn wsX13_isIn 0 0 [.long x, .long y, .long z] (s_X13_isIn x y z) := by
  refine q_body (cc := cX13_isIn) (maxL := 6) (ret := (some .boolean)) (by decide) rfl (Nat.le_of_ble_eq_true rfl) ?_
  intro p e s m args below meth c ls X hr hlocks hK hP hl
  obtain ⟨hx, hb, hml, hown, hts⟩ := id X
  have hS : va_S (ipA ad n) s.heap s.heap [] := va_S.rf
  have hl : lv_has ls 6 [(0, .long x), (2, .long y), (4, .long z)] := hl
  refine lv_lload_n hx hb dX13_isIn_0 rfl (lv_at hl 0 rfl) ?_
  refine lv_lload_n hx hb dX13_isIn_1 rfl (lv_at hl 1 rfl) ?_
  refine q_lcmp_lt (tgt := 17) hx hb dX13_isIn_2 dX13_isIn_3 (by decide) (fun c_3 => ?_) (fun c_3 => ?_)
  · skip
    refine lv_iconst (v := 0) hx hb dX13_isIn_17 (by decide) ?_
    exact q_zret X hr hlocks (rfl) (by rw [s_X13_isIn, if_pos c_3]) dX13_isIn_18
  · skip
    refine lv_lload_n hx hb dX13_isIn_6 rfl (lv_at hl 0 rfl) ?_
    refine lv_lload hx hb dX13_isIn_7 (lv_at hl 2 rfl) ?_
    refine q_lcmp_gt (tgt := 17) hx hb dX13_isIn_9 dX13_isIn_10 (by decide) (fun c_10 => ?_) (fun c_10 => ?_)
    · skip
      refine lv_iconst (v := 0) hx hb dX13_isIn_17 (by decide) ?_
      exact q_zret X hr hlocks (rfl) (by rw [s_X13_isIn, if_neg c_3, if_pos c_10]) dX13_isIn_18
    · skip
      refine lv_iconst (v := 1) hx hb dX13_isIn_13 (by decide) ?_
      refine lv_goto (tgt := 18) hx hb dX13_isIn_14 (by decide) ?_
      exact q_zret X hr hlocks (rfl) (by rw [s_X13_isIn, if_neg c_3, if_neg c_10]) dX13_isIn_18
theorem isIn01 (x y z : Int64) : narrow .boolean (.int (s_X13_isIn x y z)) = .int (s_X13_isIn x y z) := by
  unfold s_X13_isIn
  split
  · rfl
  · split <;> rfl

set_option maxRecDepth 20000 in
theorem fX13_isPerson_40 : FL wsX13_isPerson RX13 40 12 3 := ⟨RX13, TX13, 67, rfl, by decide +kernel, by decide, by decide +kernel⟩
theorem yd_X13_isIn : YD yX13_isIn 3 := ⟨by decide +kernel, by decide +kernel, by decide +kernel⟩
def s_X13_isPerson (toldF : Nat → Int32) (x : Int32) : Int32 := (s_X13_isIn x.toInt64 0 (((toldF 0) - 1).toInt64))
set_option maxHeartbeats 4000000 in
set_option maxRecDepth 100000 in
theorem c_X13_isPerson (l : Launch) (D : va_G) (cB cI cJ : ClassId) (ad : Nat → Nat) (n : Nat) (M : Nat → va_E) (mb : Nat) (nt : Nat) (nc : Nat) (np : Nat) (nq : Nat) (mv : Nat → Int32) (toldF : Nat → Int32) (x : Int32) (h_mb : mb < n) (h_mb_3 : mb + 3 < n) (m_mb : M mb = .inr (12, modF ad mb mv)) (m_mb_3 : M (mb + 3) = .inl (cI, 14, .inl toldF)) (k0 : toldF 0 = nI np) (hnp : np ≤ 4) (k1 : toldF 1 = nI nc) (hnc : nc ≤ 5) (k2 : toldF 2 = nI nt) (hnt : nt ≤ 12) (k3 : toldF 3 = nI nq) (hnq : nq ≤ 6) : cR l D cB cI cJ ad n M yX13_isPerson wsX13_isPerson 1 25 [.ref (ad mb), .int x] (s_X13_isPerson toldF x) := by
  refine q_body (cc := cX13_isPerson) (maxL := 2) (ret := (some .boolean)) (by decide) rfl (Nat.le_of_ble_eq_true rfl) ?_
  intro p e s m args below meth c ls X hr hlocks hK hP hl
  obtain ⟨hx, hb, hml, hown, hts⟩ := id X
  have hS : va_S (ipA ad n) s.heap s.heap [] := va_S.rf
  have hl : lv_has ls 2 [(0, .ref (ad mb)), (1, .int x)] := hl
  refine lv_iload_n hx hb dX13_isPerson_0 rfl (lv_at hl 1 rfl) ?_
  refine lv_i2l hx hb dX13_isPerson_1 rfl ?_
  refine lv_lconst (v := 0) hx hb dX13_isPerson_2 (by decide) ?_
  refine lv_aload_n hx hb dX13_isPerson_3 rfl (lv_at hl 0 rfl) ?_
  refine q_get (v := .ref (ad (mb + 3))) (fs := modF ad mb mv) X hK hP fX13_isPerson_40 h_mb m_mb rfl dX13_isPerson_4 ?_
  refine lv_iconst (v := 0) hx hb dX13_isPerson_7 (by decide) ?_
  refine q_ialdN (f := toldF) (k := 14) X hK hP 0 h_mb_3 m_mb_3 (by decide) (by decide) dX13_isPerson_8 ?_
  refine lv_iconst (v := 1) hx hb dX13_isPerson_9 (by decide) ?_
  refine lv_isub hx hb dX13_isPerson_10 ?_
  refine lv_i2l hx hb dX13_isPerson_11 rfl ?_
  refine q_rdS (As := [.long x.toInt64, .long 0, .long (((toldF 0) - 1).toInt64)]) (rest := []) (c_X13_isIn l D cB cI cJ ad n M x.toInt64 0 (((toldF 0) - 1).toInt64)   ) X hK hP hS hl.1 rfl gX13_isPerson_X13_isIn yd_X13_isIn ⟨Nat.le_of_ble_eq_true rfl, Nat.le_of_ble_eq_true rfl⟩ rfl (Nat.le_of_ble_eq_true rfl) ⟨Nat.zero_le _, Nat.zero_le _⟩ dX13_isPerson_12 ?_
  exact q_zret X hr hlocks (isIn01 _ _ _) (by rfl) dX13_isPerson_15
set_option maxRecDepth 20000 in
theorem fX13_isCase_40 : FL wsX13_isCase RX13 40 12 3 := ⟨RX13, TX13, 67, rfl, by decide +kernel, by decide, by decide +kernel⟩
def s_X13_isCase (toldF : Nat → Int32) (x : Int32) : Int32 := (s_X13_isIn x.toInt64 0 (((toldF 1) - 1).toInt64))
set_option maxHeartbeats 4000000 in
set_option maxRecDepth 100000 in
theorem c_X13_isCase (l : Launch) (D : va_G) (cB cI cJ : ClassId) (ad : Nat → Nat) (n : Nat) (M : Nat → va_E) (mb : Nat) (nt : Nat) (nc : Nat) (np : Nat) (nq : Nat) (mv : Nat → Int32) (toldF : Nat → Int32) (x : Int32) (h_mb : mb < n) (h_mb_3 : mb + 3 < n) (m_mb : M mb = .inr (12, modF ad mb mv)) (m_mb_3 : M (mb + 3) = .inl (cI, 14, .inl toldF)) (k0 : toldF 0 = nI np) (hnp : np ≤ 4) (k1 : toldF 1 = nI nc) (hnc : nc ≤ 5) (k2 : toldF 2 = nI nt) (hnt : nt ≤ 12) (k3 : toldF 3 = nI nq) (hnq : nq ≤ 6) : cR l D cB cI cJ ad n M yX13_isCase wsX13_isCase 1 25 [.ref (ad mb), .int x] (s_X13_isCase toldF x) := by
  refine q_body (cc := cX13_isCase) (maxL := 2) (ret := (some .boolean)) (by decide) rfl (Nat.le_of_ble_eq_true rfl) ?_
  intro p e s m args below meth c ls X hr hlocks hK hP hl
  obtain ⟨hx, hb, hml, hown, hts⟩ := id X
  have hS : va_S (ipA ad n) s.heap s.heap [] := va_S.rf
  have hl : lv_has ls 2 [(0, .ref (ad mb)), (1, .int x)] := hl
  refine lv_iload_n hx hb dX13_isCase_0 rfl (lv_at hl 1 rfl) ?_
  refine lv_i2l hx hb dX13_isCase_1 rfl ?_
  refine lv_lconst (v := 0) hx hb dX13_isCase_2 (by decide) ?_
  refine lv_aload_n hx hb dX13_isCase_3 rfl (lv_at hl 0 rfl) ?_
  refine q_get (v := .ref (ad (mb + 3))) (fs := modF ad mb mv) X hK hP fX13_isCase_40 h_mb m_mb rfl dX13_isCase_4 ?_
  refine lv_iconst (v := 1) hx hb dX13_isCase_7 (by decide) ?_
  refine q_ialdN (f := toldF) (k := 14) X hK hP 1 h_mb_3 m_mb_3 (by decide) (by decide) dX13_isCase_8 ?_
  refine lv_iconst (v := 1) hx hb dX13_isCase_9 (by decide) ?_
  refine lv_isub hx hb dX13_isCase_10 ?_
  refine lv_i2l hx hb dX13_isCase_11 rfl ?_
  refine q_rdS (As := [.long x.toInt64, .long 0, .long (((toldF 1) - 1).toInt64)]) (rest := []) (c_X13_isIn l D cB cI cJ ad n M x.toInt64 0 (((toldF 1) - 1).toInt64)   ) X hK hP hS hl.1 rfl gX13_isCase_X13_isIn yd_X13_isIn ⟨Nat.le_of_ble_eq_true rfl, Nat.le_of_ble_eq_true rfl⟩ rfl (Nat.le_of_ble_eq_true rfl) ⟨Nat.zero_le _, Nat.zero_le _⟩ dX13_isCase_12 ?_
  exact q_zret X hr hlocks (isIn01 _ _ _) (by rfl) dX13_isCase_15
set_option maxRecDepth 20000 in
theorem fX13_isThing_40 : FL wsX13_isThing RX13 40 12 3 := ⟨RX13, TX13, 67, rfl, by decide +kernel, by decide, by decide +kernel⟩
def s_X13_isThing (toldF : Nat → Int32) (x : Int32) : Int32 := (s_X13_isIn x.toInt64 0 (((toldF 2) - 1).toInt64))
set_option maxHeartbeats 4000000 in
set_option maxRecDepth 100000 in
theorem c_X13_isThing (l : Launch) (D : va_G) (cB cI cJ : ClassId) (ad : Nat → Nat) (n : Nat) (M : Nat → va_E) (mb : Nat) (nt : Nat) (nc : Nat) (np : Nat) (nq : Nat) (mv : Nat → Int32) (toldF : Nat → Int32) (x : Int32) (h_mb : mb < n) (h_mb_3 : mb + 3 < n) (m_mb : M mb = .inr (12, modF ad mb mv)) (m_mb_3 : M (mb + 3) = .inl (cI, 14, .inl toldF)) (k0 : toldF 0 = nI np) (hnp : np ≤ 4) (k1 : toldF 1 = nI nc) (hnc : nc ≤ 5) (k2 : toldF 2 = nI nt) (hnt : nt ≤ 12) (k3 : toldF 3 = nI nq) (hnq : nq ≤ 6) : cR l D cB cI cJ ad n M yX13_isThing wsX13_isThing 1 25 [.ref (ad mb), .int x] (s_X13_isThing toldF x) := by
  refine q_body (cc := cX13_isThing) (maxL := 2) (ret := (some .boolean)) (by decide) rfl (Nat.le_of_ble_eq_true rfl) ?_
  intro p e s m args below meth c ls X hr hlocks hK hP hl
  obtain ⟨hx, hb, hml, hown, hts⟩ := id X
  have hS : va_S (ipA ad n) s.heap s.heap [] := va_S.rf
  have hl : lv_has ls 2 [(0, .ref (ad mb)), (1, .int x)] := hl
  refine lv_iload_n hx hb dX13_isThing_0 rfl (lv_at hl 1 rfl) ?_
  refine lv_i2l hx hb dX13_isThing_1 rfl ?_
  refine lv_lconst (v := 0) hx hb dX13_isThing_2 (by decide) ?_
  refine lv_aload_n hx hb dX13_isThing_3 rfl (lv_at hl 0 rfl) ?_
  refine q_get (v := .ref (ad (mb + 3))) (fs := modF ad mb mv) X hK hP fX13_isThing_40 h_mb m_mb rfl dX13_isThing_4 ?_
  refine lv_iconst (v := 2) hx hb dX13_isThing_7 (by decide) ?_
  refine q_ialdN (f := toldF) (k := 14) X hK hP 2 h_mb_3 m_mb_3 (by decide) (by decide) dX13_isThing_8 ?_
  refine lv_iconst (v := 1) hx hb dX13_isThing_9 (by decide) ?_
  refine lv_isub hx hb dX13_isThing_10 ?_
  refine lv_i2l hx hb dX13_isThing_11 rfl ?_
  refine q_rdS (As := [.long x.toInt64, .long 0, .long (((toldF 2) - 1).toInt64)]) (rest := []) (c_X13_isIn l D cB cI cJ ad n M x.toInt64 0 (((toldF 2) - 1).toInt64)   ) X hK hP hS hl.1 rfl gX13_isThing_X13_isIn yd_X13_isIn ⟨Nat.le_of_ble_eq_true rfl, Nat.le_of_ble_eq_true rfl⟩ rfl (Nat.le_of_ble_eq_true rfl) ⟨Nat.zero_le _, Nat.zero_le _⟩ dX13_isThing_12 ?_
  exact q_zret X hr hlocks (isIn01 _ _ _) (by rfl) dX13_isThing_15
def s_X13_isLetter (x : Int32) : Int32 := if x < 97 then 0 else if 122 < x then 0 else 1
set_option maxHeartbeats 4000000 in
set_option maxRecDepth 100000 in
theorem c_X13_isLetter (l : Launch) (D : va_G) (cB cI cJ : ClassId) (ad : Nat → Nat) (n : Nat) (M : Nat → va_E) (x : Int32)    : cR l D cB cI cJ ad n M yX13_isLetter wsX13_isLetter 0 0 [.int x] (s_X13_isLetter x) := by
  refine q_body (cc := cX13_isLetter) (maxL := 1) (ret := (some .boolean)) (by decide) rfl (Nat.le_of_ble_eq_true rfl) ?_
  intro p e s m args below meth c ls X hr hlocks hK hP hl
  obtain ⟨hx, hb, hml, hown, hts⟩ := id X
  have hS : va_S (ipA ad n) s.heap s.heap [] := va_S.rf
  have hl : lv_has ls 1 [(0, .int x)] := hl
  refine lv_iload_n hx hb dX13_isLetter_0 rfl (lv_at hl 0 rfl) ?_
  refine lv_bipush (v := 97) hx hb dX13_isLetter_1 (by decide) ?_
  refine lv_icmp_lt (tgt := 16) hx hb dX13_isLetter_3 (by decide) (fun c_3 => ?_) (fun c_3 => ?_)
  · skip
    refine lv_iconst (v := 0) hx hb dX13_isLetter_16 (by decide) ?_
    exact q_zret X hr hlocks (rfl) (by rw [s_X13_isLetter, if_pos c_3]) dX13_isLetter_17
  · skip
    refine lv_iload_n hx hb dX13_isLetter_6 rfl (lv_at hl 0 rfl) ?_
    refine lv_bipush (v := 122) hx hb dX13_isLetter_7 (by decide) ?_
    refine lv_icmp_gt (tgt := 16) hx hb dX13_isLetter_9 (by decide) (fun c_9 => ?_) (fun c_9 => ?_)
    · skip
      refine lv_iconst (v := 0) hx hb dX13_isLetter_16 (by decide) ?_
      exact q_zret X hr hlocks (rfl) (by rw [s_X13_isLetter, if_neg c_3, if_pos c_9]) dX13_isLetter_17
    · skip
      refine lv_iconst (v := 1) hx hb dX13_isLetter_12 (by decide) ?_
      refine lv_goto (tgt := 17) hx hb dX13_isLetter_13 (by decide) ?_
      exact q_zret X hr hlocks (rfl) (by rw [s_X13_isLetter, if_neg c_3, if_neg c_9]) dX13_isLetter_17
def s_X13_isDigit (x : Int32) : Int32 := if x < 48 then 0 else if 57 < x then 0 else 1
set_option maxHeartbeats 4000000 in
set_option maxRecDepth 100000 in
theorem c_X13_isDigit (l : Launch) (D : va_G) (cB cI cJ : ClassId) (ad : Nat → Nat) (n : Nat) (M : Nat → va_E) (x : Int32)    : cR l D cB cI cJ ad n M yX13_isDigit wsX13_isDigit 0 0 [.int x] (s_X13_isDigit x) := by
  refine q_body (cc := cX13_isDigit) (maxL := 1) (ret := (some .boolean)) (by decide) rfl (Nat.le_of_ble_eq_true rfl) ?_
  intro p e s m args below meth c ls X hr hlocks hK hP hl
  obtain ⟨hx, hb, hml, hown, hts⟩ := id X
  have hS : va_S (ipA ad n) s.heap s.heap [] := va_S.rf
  have hl : lv_has ls 1 [(0, .int x)] := hl
  refine lv_iload_n hx hb dX13_isDigit_0 rfl (lv_at hl 0 rfl) ?_
  refine lv_bipush (v := 48) hx hb dX13_isDigit_1 (by decide) ?_
  refine lv_icmp_lt (tgt := 16) hx hb dX13_isDigit_3 (by decide) (fun c_3 => ?_) (fun c_3 => ?_)
  · skip
    refine lv_iconst (v := 0) hx hb dX13_isDigit_16 (by decide) ?_
    exact q_zret X hr hlocks (rfl) (by rw [s_X13_isDigit, if_pos c_3]) dX13_isDigit_17
  · skip
    refine lv_iload_n hx hb dX13_isDigit_6 rfl (lv_at hl 0 rfl) ?_
    refine lv_bipush (v := 57) hx hb dX13_isDigit_7 (by decide) ?_
    refine lv_icmp_gt (tgt := 16) hx hb dX13_isDigit_9 (by decide) (fun c_9 => ?_) (fun c_9 => ?_)
    · skip
      refine lv_iconst (v := 0) hx hb dX13_isDigit_16 (by decide) ?_
      exact q_zret X hr hlocks (rfl) (by rw [s_X13_isDigit, if_neg c_3, if_pos c_9]) dX13_isDigit_17
    · skip
      refine lv_iconst (v := 1) hx hb dX13_isDigit_12 (by decide) ?_
      refine lv_goto (tgt := 17) hx hb dX13_isDigit_13 (by decide) ?_
      exact q_zret X hr hlocks (rfl) (by rw [s_X13_isDigit, if_neg c_3, if_neg c_9]) dX13_isDigit_17
def s_X13_isMark (x : Int32) : Int32 := if x = 59 then 1 else if x = 40 then 1 else if x = 41 then 1 else if x = 43 then 1 else if x = 45 then 1 else if x = 42 then 1 else if x = 47 then 1 else if x = 60 then 1 else if x = 61 then 1 else 0
set_option maxHeartbeats 4000000 in
set_option maxRecDepth 100000 in
theorem c_X13_isMark (l : Launch) (D : va_G) (cB cI cJ : ClassId) (ad : Nat → Nat) (n : Nat) (M : Nat → va_E) (x : Int32)    : cR l D cB cI cJ ad n M yX13_isMark wsX13_isMark 0 0 [.int x] (s_X13_isMark x) := by
  refine q_body (cc := cX13_isMark) (maxL := 1) (ret := (some .boolean)) (by decide) rfl (Nat.le_of_ble_eq_true rfl) ?_
  intro p e s m args below meth c ls X hr hlocks hK hP hl
  obtain ⟨hx, hb, hml, hown, hts⟩ := id X
  have hS : va_S (ipA ad n) s.heap s.heap [] := va_S.rf
  have hl : lv_has ls 1 [(0, .int x)] := hl
  refine lv_iload_n hx hb dX13_isMark_0 rfl (lv_at hl 0 rfl) ?_
  refine lv_bipush (v := 59) hx hb dX13_isMark_1 (by decide) ?_
  refine lv_icmp_eq (tgt := 54) hx hb dX13_isMark_3 (by decide) (fun c_3 => ?_) (fun c_3 => ?_)
  · skip
    refine lv_iconst (v := 1) hx hb dX13_isMark_54 (by decide) ?_
    refine lv_goto (tgt := 59) hx hb dX13_isMark_55 (by decide) ?_
    exact q_zret X hr hlocks (rfl) (by rw [s_X13_isMark, if_pos c_3]) dX13_isMark_59
  · skip
    refine lv_iload_n hx hb dX13_isMark_6 rfl (lv_at hl 0 rfl) ?_
    refine lv_bipush (v := 40) hx hb dX13_isMark_7 (by decide) ?_
    refine lv_icmp_eq (tgt := 54) hx hb dX13_isMark_9 (by decide) (fun c_9 => ?_) (fun c_9 => ?_)
    · skip
      refine lv_iconst (v := 1) hx hb dX13_isMark_54 (by decide) ?_
      refine lv_goto (tgt := 59) hx hb dX13_isMark_55 (by decide) ?_
      exact q_zret X hr hlocks (rfl) (by rw [s_X13_isMark, if_neg c_3, if_pos c_9]) dX13_isMark_59
    · skip
      refine lv_iload_n hx hb dX13_isMark_12 rfl (lv_at hl 0 rfl) ?_
      refine lv_bipush (v := 41) hx hb dX13_isMark_13 (by decide) ?_
      refine lv_icmp_eq (tgt := 54) hx hb dX13_isMark_15 (by decide) (fun c_15 => ?_) (fun c_15 => ?_)
      · skip
        refine lv_iconst (v := 1) hx hb dX13_isMark_54 (by decide) ?_
        refine lv_goto (tgt := 59) hx hb dX13_isMark_55 (by decide) ?_
        exact q_zret X hr hlocks (rfl) (by rw [s_X13_isMark, if_neg c_3, if_neg c_9, if_pos c_15]) dX13_isMark_59
      · skip
        refine lv_iload_n hx hb dX13_isMark_18 rfl (lv_at hl 0 rfl) ?_
        refine lv_bipush (v := 43) hx hb dX13_isMark_19 (by decide) ?_
        refine lv_icmp_eq (tgt := 54) hx hb dX13_isMark_21 (by decide) (fun c_21 => ?_) (fun c_21 => ?_)
        · skip
          refine lv_iconst (v := 1) hx hb dX13_isMark_54 (by decide) ?_
          refine lv_goto (tgt := 59) hx hb dX13_isMark_55 (by decide) ?_
          exact q_zret X hr hlocks (rfl) (by rw [s_X13_isMark, if_neg c_3, if_neg c_9, if_neg c_15, if_pos c_21]) dX13_isMark_59
        · skip
          refine lv_iload_n hx hb dX13_isMark_24 rfl (lv_at hl 0 rfl) ?_
          refine lv_bipush (v := 45) hx hb dX13_isMark_25 (by decide) ?_
          refine lv_icmp_eq (tgt := 54) hx hb dX13_isMark_27 (by decide) (fun c_27 => ?_) (fun c_27 => ?_)
          · skip
            refine lv_iconst (v := 1) hx hb dX13_isMark_54 (by decide) ?_
            refine lv_goto (tgt := 59) hx hb dX13_isMark_55 (by decide) ?_
            exact q_zret X hr hlocks (rfl) (by rw [s_X13_isMark, if_neg c_3, if_neg c_9, if_neg c_15, if_neg c_21, if_pos c_27]) dX13_isMark_59
          · skip
            refine lv_iload_n hx hb dX13_isMark_30 rfl (lv_at hl 0 rfl) ?_
            refine lv_bipush (v := 42) hx hb dX13_isMark_31 (by decide) ?_
            refine lv_icmp_eq (tgt := 54) hx hb dX13_isMark_33 (by decide) (fun c_33 => ?_) (fun c_33 => ?_)
            · skip
              refine lv_iconst (v := 1) hx hb dX13_isMark_54 (by decide) ?_
              refine lv_goto (tgt := 59) hx hb dX13_isMark_55 (by decide) ?_
              exact q_zret X hr hlocks (rfl) (by rw [s_X13_isMark, if_neg c_3, if_neg c_9, if_neg c_15, if_neg c_21, if_neg c_27, if_pos c_33]) dX13_isMark_59
            · skip
              refine lv_iload_n hx hb dX13_isMark_36 rfl (lv_at hl 0 rfl) ?_
              refine lv_bipush (v := 47) hx hb dX13_isMark_37 (by decide) ?_
              refine lv_icmp_eq (tgt := 54) hx hb dX13_isMark_39 (by decide) (fun c_39 => ?_) (fun c_39 => ?_)
              · skip
                refine lv_iconst (v := 1) hx hb dX13_isMark_54 (by decide) ?_
                refine lv_goto (tgt := 59) hx hb dX13_isMark_55 (by decide) ?_
                exact q_zret X hr hlocks (rfl) (by rw [s_X13_isMark, if_neg c_3, if_neg c_9, if_neg c_15, if_neg c_21, if_neg c_27, if_neg c_33, if_pos c_39]) dX13_isMark_59
              · skip
                refine lv_iload_n hx hb dX13_isMark_42 rfl (lv_at hl 0 rfl) ?_
                refine lv_bipush (v := 60) hx hb dX13_isMark_43 (by decide) ?_
                refine lv_icmp_eq (tgt := 54) hx hb dX13_isMark_45 (by decide) (fun c_45 => ?_) (fun c_45 => ?_)
                · skip
                  refine lv_iconst (v := 1) hx hb dX13_isMark_54 (by decide) ?_
                  refine lv_goto (tgt := 59) hx hb dX13_isMark_55 (by decide) ?_
                  exact q_zret X hr hlocks (rfl) (by rw [s_X13_isMark, if_neg c_3, if_neg c_9, if_neg c_15, if_neg c_21, if_neg c_27, if_neg c_33, if_neg c_39, if_pos c_45]) dX13_isMark_59
                · skip
                  refine lv_iload_n hx hb dX13_isMark_48 rfl (lv_at hl 0 rfl) ?_
                  refine lv_bipush (v := 61) hx hb dX13_isMark_49 (by decide) ?_
                  refine lv_icmp_ne (tgt := 58) hx hb dX13_isMark_51 (by decide) (fun c_51 => ?_) (fun c_51 => ?_)
                  · skip
                    refine lv_iconst (v := 0) hx hb dX13_isMark_58 (by decide) ?_
                    exact q_zret X hr hlocks (rfl) (by rw [s_X13_isMark, if_neg c_3, if_neg c_9, if_neg c_15, if_neg c_21, if_neg c_27, if_neg c_33, if_neg c_39, if_neg c_45, if_neg c_51]) dX13_isMark_59
                  · skip
                    refine lv_iconst (v := 1) hx hb dX13_isMark_54 (by decide) ?_
                    refine lv_goto (tgt := 59) hx hb dX13_isMark_55 (by decide) ?_
                    exact q_zret X hr hlocks (rfl) (by rw [s_X13_isMark, if_neg c_3, if_neg c_9, if_neg c_15, if_neg c_21, if_neg c_27, if_neg c_33, if_neg c_39, if_neg c_45, if_pos c_51]) dX13_isMark_59
set_option maxRecDepth 20000 in
theorem fX13_sumAt_40 : FL wsX13_sumAt RX13 40 12 3 := ⟨RX13, TX13, 67, rfl, by decide +kernel, by decide, by decide +kernel⟩
set_option maxRecDepth 20000 in
theorem fX13_sumAt_84 : FL wsX13_sumAt RX13 84 12 18 := ⟨RX13, TX13, 67, rfl, by decide +kernel, by decide, by decide +kernel⟩
set_option maxRecDepth 20000 in
theorem fX13_sumAt_66 : FL wsX13_sumAt RX13 66 12 12 := ⟨RX13, TX13, 67, rfl, by decide +kernel, by decide, by decide +kernel⟩
set_option maxRecDepth 20000 in
theorem fX13_sumAt_75 : FL wsX13_sumAt RX13 75 12 15 := ⟨RX13, TX13, 67, rfl, by decide +kernel, by decide, by decide +kernel⟩
set_option maxRecDepth 20000 in
theorem fX13_sumAt_69 : FL wsX13_sumAt RX13 69 12 13 := ⟨RX13, TX13, 67, rfl, by decide +kernel, by decide, by decide +kernel⟩
set_option maxRecDepth 20000 in
theorem fX13_sumAt_81 : FL wsX13_sumAt RX13 81 12 17 := ⟨RX13, TX13, 67, rfl, by decide +kernel, by decide, by decide +kernel⟩
def s_X13_sumAt_5s (kindF : Nat → Int32) (heavyF : Nat → Int32) (wideF : Nat → Int32) (hotF : Nat → Int32) (placeF : Nat → Int32) (x : Int32) (y : Int32) (t5 : Nat) (x5_3 : Int32) : Int32 := if (placeF t5) = x then if (kindF t5) = 1 then if y = 0 then (x5_3 + 1) else if y = 1 then (x5_3 + (heavyF t5)) else if y = 2 then (x5_3 + (wideF t5)) else if y = 3 then (x5_3 + (hotF t5)) else if y = 4 then (x5_3 + 0) else (x5_3 + (1 <<< ((nI t5) &&& 31))) else if y = 0 then (x5_3 + 1) else if y = 1 then (x5_3 + (heavyF t5)) else if y = 2 then (x5_3 + (wideF t5)) else if y = 3 then (x5_3 + 0) else if y = 4 then (x5_3 + (wideF t5)) else (x5_3 + (1 <<< ((nI t5) &&& 31))) else x5_3
def s_X13_sumAt_5 (kindF : Nat → Int32) (heavyF : Nat → Int32) (wideF : Nat → Int32) (hotF : Nat → Int32) (placeF : Nat → Int32) (x : Int32) (y : Int32) (z0 : Int32) : Nat → Int32
  | 0 => z0
  | t + 1 => s_X13_sumAt_5s kindF heavyF wideF hotF placeF x y t (s_X13_sumAt_5 kindF heavyF wideF hotF placeF x y z0 t)
def s_X13_sumAt (nt : Nat) (kindF : Nat → Int32) (heavyF : Nat → Int32) (wideF : Nat → Int32) (hotF : Nat → Int32) (placeF : Nat → Int32) (x : Int32) (y : Int32) : Int32 := (s_X13_sumAt_5 kindF heavyF wideF hotF placeF x y 0 nt)
set_option maxHeartbeats 4000000 in
set_option maxRecDepth 100000 in
theorem c_X13_sumAt (l : Launch) (D : va_G) (cB cI cJ : ClassId) (ad : Nat → Nat) (n : Nat) (M : Nat → va_E) (mb : Nat) (nt : Nat) (nc : Nat) (np : Nat) (nq : Nat) (mv : Nat → Int32) (toldF : Nat → Int32) (kindF : Nat → Int32) (heavyF : Nat → Int32) (wideF : Nat → Int32) (hotF : Nat → Int32) (placeF : Nat → Int32) (x : Int32) (y : Int32) (h_mb : mb < n) (h_mb_3 : mb + 3 < n) (h_mb_12 : mb + 12 < n) (h_mb_13 : mb + 13 < n) (h_mb_15 : mb + 15 < n) (h_mb_17 : mb + 17 < n) (h_mb_18 : mb + 18 < n) (m_mb : M mb = .inr (12, modF ad mb mv)) (m_mb_3 : M (mb + 3) = .inl (cI, 14, .inl toldF)) (m_mb_12 : M (mb + 12) = .inl (cI, 24, .inl kindF)) (m_mb_13 : M (mb + 13) = .inl (cI, 24, .inl heavyF)) (m_mb_15 : M (mb + 15) = .inl (cI, 24, .inl wideF)) (m_mb_17 : M (mb + 17) = .inl (cI, 24, .inl hotF)) (m_mb_18 : M (mb + 18) = .inl (cI, 24, .inl placeF)) (k0 : toldF 0 = nI np) (hnp : np ≤ 4) (k1 : toldF 1 = nI nc) (hnc : nc ≤ 5) (k2 : toldF 2 = nI nt) (hnt : nt ≤ 12) (k3 : toldF 3 = nI nq) (hnq : nq ≤ 6) : cR l D cB cI cJ ad n M yX13_sumAt wsX13_sumAt 0 0 [.ref (ad mb), .int x, .int y] (s_X13_sumAt nt kindF heavyF wideF hotF placeF x y) := by
  refine q_body (cc := cX13_sumAt) (maxL := 6) (ret := (some .int)) (by decide) rfl (Nat.le_of_ble_eq_true rfl) ?_
  intro p e s m args below meth c ls X hr hlocks hK hP hl
  obtain ⟨hx, hb, hml, hown, hts⟩ := id X
  have hS : va_S (ipA ad n) s.heap s.heap [] := va_S.rf
  have hl : lv_has ls 6 [(0, .ref (ad mb)), (1, .int x), (2, .int y)] := hl
  refine lv_iconst (v := 0) hx hb dX13_sumAt_0 (by decide) ?_
  refine lv_istore_n (lv' := [(3, .int 0), (0, .ref (ad mb)), (1, .int x), (2, .int y)]) hx hb dX13_sumAt_1 rfl hl (by decide) rfl (fun ls hl => ?_)
  refine lv_iconst (v := 0) hx hb dX13_sumAt_2 (by decide) ?_
  refine lv_istore (lv' := [(4, .int 0), (3, .int 0), (0, .ref (ad mb)), (1, .int x), (2, .int y)]) hx hb dX13_sumAt_3 hl (by decide) rfl (fun ls hl => ?_)
  have loop_5 : ∀ (fuel : Nat) (t5 : Nat) (x5_3 : Int32), nt - (t5) < fuel → t5 ≤ nt → x5_3 = (s_X13_sumAt_5 kindF heavyF wideF hotF placeF x y 0 t5) → ∀ (ls : Array Slot), lv_has ls 6 [(4, .int (nI t5)), (3, .int x5_3), (0, .ref (ad mb)), (1, .int x), (2, .int y)] → W p l e (rmOf 0 0) s m args below meth c s.heap [] 0 0 (MQ below (vp_Si (fun r9 => r9 = s_X13_sumAt nt kindF heavyF wideF hotF placeF x y)) args s 0 0 (fun _ => False)) (F0 m 5 ls []) := by
    intro fuel
    induction fuel with
    | zero =>
      intro t5 x5_3 hz
      exact absurd hz (Nat.not_lt_zero _)
    | succ fuel ih_5 =>
      intro t5 x5_3 hz_5 h_t5 e_x5_3 ls hl
      skip
      refine lv_iload hx hb dX13_sumAt_5 (lv_at hl 0 rfl) ?_
      refine lv_aload_n hx hb dX13_sumAt_7 rfl (lv_at hl 2 rfl) ?_
      refine q_get (v := .ref (ad (mb + 3))) (fs := modF ad mb mv) X hK hP fX13_sumAt_40 h_mb m_mb rfl dX13_sumAt_8 ?_
      refine lv_iconst (v := 2) hx hb dX13_sumAt_11 (by decide) ?_
      refine q_ialdN (f := toldF) (k := 14) X hK hP 2 h_mb_3 m_mb_3 (by decide) (by decide) dX13_sumAt_12 ?_
      refine lv_icmp_ge (tgt := 147) hx hb dX13_sumAt_13 (by decide) (fun c_13 => ?_) (fun c_13 => ?_)
      · rw [k2] at c_13
        have h9_5 : t5 = nt := eq_of_le (t := t5) (k := nt) c_13 (by omega) h_t5
        subst t5
        subst e_x5_3
        refine lv_iload_n hx hb dX13_sumAt_147 rfl (lv_at hl 1 rfl) ?_
        exact q_iret hb hx hr hlocks (by rfl) dX13_sumAt_148
      · rw [k2] at c_13
        have h9_5 : t5 < nt := lt_of_nlt (t := t5) (k := nt) c_13 (by omega) h_t5
        refine lv_aload_n hx hb dX13_sumAt_16 rfl (lv_at hl 2 rfl) ?_
        refine q_get (v := .ref (ad (mb + 18))) (fs := modF ad mb mv) X hK hP fX13_sumAt_84 h_mb m_mb rfl dX13_sumAt_17 ?_
        refine lv_iload hx hb dX13_sumAt_20 (lv_at hl 0 rfl) ?_
        refine q_ialdN (f := placeF) (k := 24) X hK hP t5 h_mb_18 m_mb_18 (by omega) (by decide) dX13_sumAt_22 ?_
        refine lv_iload_n hx hb dX13_sumAt_23 rfl (lv_at hl 3 rfl) ?_
        refine lv_icmp_eq (tgt := 30) hx hb dX13_sumAt_24 (by decide) (fun c_24 => ?_) (fun c_24 => ?_)
        · skip
          refine lv_aload_n hx hb dX13_sumAt_30 rfl (lv_at hl 2 rfl) ?_
          refine q_get (v := .ref (ad (mb + 12))) (fs := modF ad mb mv) X hK hP fX13_sumAt_66 h_mb m_mb rfl dX13_sumAt_31 ?_
          refine lv_iload hx hb dX13_sumAt_34 (lv_at hl 0 rfl) ?_
          refine q_ialdN (f := kindF) (k := 24) X hK hP t5 h_mb_12 m_mb_12 (by omega) (by decide) dX13_sumAt_36 ?_
          refine lv_iconst (v := 1) hx hb dX13_sumAt_37 (by decide) ?_
          refine lv_icmp_ne (tgt := 45) hx hb dX13_sumAt_38 (by decide) (fun c_38 => ?_) (fun c_38 => ?_)
          · skip
            refine lv_iconst (v := 0) hx hb dX13_sumAt_45 (by decide) ?_
            refine lv_istore (lv' := [(5, .int 0), (4, .int (nI t5)), (3, .int x5_3), (0, .ref (ad mb)), (1, .int x), (2, .int y)]) hx hb dX13_sumAt_46 hl (by decide) rfl (fun ls hl => ?_)
            refine lv_iload_n hx hb dX13_sumAt_48 rfl (lv_at hl 2 rfl) ?_
            refine lv_iload_n hx hb dX13_sumAt_49 rfl (lv_at hl 5 rfl) ?_
            refine lv_if_ne (tgt := 57) hx hb dX13_sumAt_50 (by decide) (fun c_50 => ?_) (fun c_50 => ?_)
            · skip
              refine lv_iload_n hx hb dX13_sumAt_57 rfl (lv_at hl 5 rfl) ?_
              refine lv_iconst (v := 1) hx hb dX13_sumAt_58 (by decide) ?_
              refine lv_icmp_ne (tgt := 72) hx hb dX13_sumAt_59 (by decide) (fun c_59 => ?_) (fun c_59 => ?_)
              · skip
                refine lv_iload_n hx hb dX13_sumAt_72 rfl (lv_at hl 5 rfl) ?_
                refine lv_iconst (v := 2) hx hb dX13_sumAt_73 (by decide) ?_
                refine lv_icmp_ne (tgt := 87) hx hb dX13_sumAt_74 (by decide) (fun c_74 => ?_) (fun c_74 => ?_)
                · skip
                  refine lv_iload_n hx hb dX13_sumAt_87 rfl (lv_at hl 5 rfl) ?_
                  refine lv_iconst (v := 3) hx hb dX13_sumAt_88 (by decide) ?_
                  refine lv_icmp_ne (tgt := 111) hx hb dX13_sumAt_89 (by decide) (fun c_89 => ?_) (fun c_89 => ?_)
                  · skip
                    refine lv_iload_n hx hb dX13_sumAt_111 rfl (lv_at hl 5 rfl) ?_
                    refine lv_iconst (v := 4) hx hb dX13_sumAt_112 (by decide) ?_
                    refine lv_icmp_ne (tgt := 135) hx hb dX13_sumAt_113 (by decide) (fun c_113 => ?_) (fun c_113 => ?_)
                    · skip
                      refine lv_iconst (v := 1) hx hb dX13_sumAt_135 (by decide) ?_
                      refine lv_iload hx hb dX13_sumAt_136 (lv_at hl 1 rfl) ?_
                      refine lv_ishl hx hb dX13_sumAt_138 ?_
                      refine lv_iadd hx hb dX13_sumAt_139 ?_
                      refine lv_istore_n (lv' := [(3, .int (x5_3 + (1 <<< ((nI t5) &&& 31)))), (5, .int 0), (4, .int (nI t5)), (0, .ref (ad mb)), (1, .int x), (2, .int y)]) hx hb dX13_sumAt_140 rfl hl (by decide) rfl (fun ls hl => ?_)
                      refine lv_iinc (v := ((nI t5) + 1)) (lv' := [(4, .int ((nI t5) + 1)), (3, .int (x5_3 + (1 <<< ((nI t5) &&& 31)))), (5, .int 0), (0, .ref (ad mb)), (1, .int x), (2, .int y)]) hx hb dX13_sumAt_141 hl (k := 2) rfl rfl (by decide) rfl (fun ls hl => ?_)
                      refine lv_goto (tgt := 5) hx hb dX13_sumAt_144 (by decide) ?_
                      exact ih_5 (t5 + 1) (x5_3 + (1 <<< ((nI t5) &&& 31))) (by omega) (by omega) (by rw [s_X13_sumAt_5, ← e_x5_3, s_X13_sumAt_5s, if_pos c_24, if_neg c_38, if_neg c_50, if_neg c_59, if_neg c_74, if_neg c_89, if_neg c_113]) ls (by rw [(show nI (t5 + 1) = nI t5 + 1 by exact nI_succ _)]; exact lv_sub hl [0, 1, 3, 4, 5] rfl)
                    · skip
                      refine lv_iload hx hb dX13_sumAt_116 (lv_at hl 0 rfl) ?_
                      refine lv_if_eq (tgt := 125) hx hb dX13_sumAt_118 (by decide) (fun c_118 => ?_) (fun c_118 => ?_)
                      · clear c_118
                        refine lv_aload_n hx hb dX13_sumAt_125 rfl (lv_at hl 3 rfl) ?_
                        refine q_get (v := .ref (ad (mb + 15))) (fs := modF ad mb mv) X hK hP fX13_sumAt_75 h_mb m_mb rfl dX13_sumAt_126 ?_
                        refine lv_iload hx hb dX13_sumAt_129 (lv_at hl 1 rfl) ?_
                        refine q_ialdN (f := wideF) (k := 24) X hK hP t5 h_mb_15 m_mb_15 (by omega) (by decide) dX13_sumAt_131 ?_
                        refine lv_goto (tgt := 139) hx hb dX13_sumAt_132 (by decide) ?_
                        refine lv_iadd hx hb dX13_sumAt_139 ?_
                        refine lv_istore_n (lv' := [(3, .int (x5_3 + (wideF t5))), (5, .int 0), (4, .int (nI t5)), (0, .ref (ad mb)), (1, .int x), (2, .int y)]) hx hb dX13_sumAt_140 rfl hl (by decide) rfl (fun ls hl => ?_)
                        refine lv_iinc (v := ((nI t5) + 1)) (lv' := [(4, .int ((nI t5) + 1)), (3, .int (x5_3 + (wideF t5))), (5, .int 0), (0, .ref (ad mb)), (1, .int x), (2, .int y)]) hx hb dX13_sumAt_141 hl (k := 2) rfl rfl (by decide) rfl (fun ls hl => ?_)
                        refine lv_goto (tgt := 5) hx hb dX13_sumAt_144 (by decide) ?_
                        exact ih_5 (t5 + 1) (x5_3 + (wideF t5)) (by omega) (by omega) (by rw [s_X13_sumAt_5, ← e_x5_3, s_X13_sumAt_5s, if_pos c_24, if_neg c_38, if_neg c_50, if_neg c_59, if_neg c_74, if_neg c_89, if_pos c_113]) ls (by rw [(show nI (t5 + 1) = nI t5 + 1 by exact nI_succ _)]; exact lv_sub hl [0, 1, 3, 4, 5] rfl)
                      · exact absurd c_118 (by decide)
                  · skip
                    refine lv_iload hx hb dX13_sumAt_92 (lv_at hl 0 rfl) ?_
                    refine lv_if_eq (tgt := 107) hx hb dX13_sumAt_94 (by decide) (fun c_94 => ?_) (fun c_94 => ?_)
                    · clear c_94
                      refine lv_iconst (v := 0) hx hb dX13_sumAt_107 (by decide) ?_
                      refine lv_goto (tgt := 139) hx hb dX13_sumAt_108 (by decide) ?_
                      refine lv_iadd hx hb dX13_sumAt_139 ?_
                      refine lv_istore_n (lv' := [(3, .int (x5_3 + 0)), (5, .int 0), (4, .int (nI t5)), (0, .ref (ad mb)), (1, .int x), (2, .int y)]) hx hb dX13_sumAt_140 rfl hl (by decide) rfl (fun ls hl => ?_)
                      refine lv_iinc (v := ((nI t5) + 1)) (lv' := [(4, .int ((nI t5) + 1)), (3, .int (x5_3 + 0)), (5, .int 0), (0, .ref (ad mb)), (1, .int x), (2, .int y)]) hx hb dX13_sumAt_141 hl (k := 2) rfl rfl (by decide) rfl (fun ls hl => ?_)
                      refine lv_goto (tgt := 5) hx hb dX13_sumAt_144 (by decide) ?_
                      exact ih_5 (t5 + 1) (x5_3 + 0) (by omega) (by omega) (by rw [s_X13_sumAt_5, ← e_x5_3, s_X13_sumAt_5s, if_pos c_24, if_neg c_38, if_neg c_50, if_neg c_59, if_neg c_74, if_pos c_89]) ls (by rw [(show nI (t5 + 1) = nI t5 + 1 by exact nI_succ _)]; exact lv_sub hl [0, 1, 3, 4, 5] rfl)
                    · exact absurd c_94 (by decide)
                · skip
                  refine lv_aload_n hx hb dX13_sumAt_77 rfl (lv_at hl 3 rfl) ?_
                  refine q_get (v := .ref (ad (mb + 15))) (fs := modF ad mb mv) X hK hP fX13_sumAt_75 h_mb m_mb rfl dX13_sumAt_78 ?_
                  refine lv_iload hx hb dX13_sumAt_81 (lv_at hl 1 rfl) ?_
                  refine q_ialdN (f := wideF) (k := 24) X hK hP t5 h_mb_15 m_mb_15 (by omega) (by decide) dX13_sumAt_83 ?_
                  refine lv_goto (tgt := 139) hx hb dX13_sumAt_84 (by decide) ?_
                  refine lv_iadd hx hb dX13_sumAt_139 ?_
                  refine lv_istore_n (lv' := [(3, .int (x5_3 + (wideF t5))), (5, .int 0), (4, .int (nI t5)), (0, .ref (ad mb)), (1, .int x), (2, .int y)]) hx hb dX13_sumAt_140 rfl hl (by decide) rfl (fun ls hl => ?_)
                  refine lv_iinc (v := ((nI t5) + 1)) (lv' := [(4, .int ((nI t5) + 1)), (3, .int (x5_3 + (wideF t5))), (5, .int 0), (0, .ref (ad mb)), (1, .int x), (2, .int y)]) hx hb dX13_sumAt_141 hl (k := 2) rfl rfl (by decide) rfl (fun ls hl => ?_)
                  refine lv_goto (tgt := 5) hx hb dX13_sumAt_144 (by decide) ?_
                  exact ih_5 (t5 + 1) (x5_3 + (wideF t5)) (by omega) (by omega) (by rw [s_X13_sumAt_5, ← e_x5_3, s_X13_sumAt_5s, if_pos c_24, if_neg c_38, if_neg c_50, if_neg c_59, if_pos c_74]) ls (by rw [(show nI (t5 + 1) = nI t5 + 1 by exact nI_succ _)]; exact lv_sub hl [0, 1, 3, 4, 5] rfl)
              · skip
                refine lv_aload_n hx hb dX13_sumAt_62 rfl (lv_at hl 3 rfl) ?_
                refine q_get (v := .ref (ad (mb + 13))) (fs := modF ad mb mv) X hK hP fX13_sumAt_69 h_mb m_mb rfl dX13_sumAt_63 ?_
                refine lv_iload hx hb dX13_sumAt_66 (lv_at hl 1 rfl) ?_
                refine q_ialdN (f := heavyF) (k := 24) X hK hP t5 h_mb_13 m_mb_13 (by omega) (by decide) dX13_sumAt_68 ?_
                refine lv_goto (tgt := 139) hx hb dX13_sumAt_69 (by decide) ?_
                refine lv_iadd hx hb dX13_sumAt_139 ?_
                refine lv_istore_n (lv' := [(3, .int (x5_3 + (heavyF t5))), (5, .int 0), (4, .int (nI t5)), (0, .ref (ad mb)), (1, .int x), (2, .int y)]) hx hb dX13_sumAt_140 rfl hl (by decide) rfl (fun ls hl => ?_)
                refine lv_iinc (v := ((nI t5) + 1)) (lv' := [(4, .int ((nI t5) + 1)), (3, .int (x5_3 + (heavyF t5))), (5, .int 0), (0, .ref (ad mb)), (1, .int x), (2, .int y)]) hx hb dX13_sumAt_141 hl (k := 2) rfl rfl (by decide) rfl (fun ls hl => ?_)
                refine lv_goto (tgt := 5) hx hb dX13_sumAt_144 (by decide) ?_
                exact ih_5 (t5 + 1) (x5_3 + (heavyF t5)) (by omega) (by omega) (by rw [s_X13_sumAt_5, ← e_x5_3, s_X13_sumAt_5s, if_pos c_24, if_neg c_38, if_neg c_50, if_pos c_59]) ls (by rw [(show nI (t5 + 1) = nI t5 + 1 by exact nI_succ _)]; exact lv_sub hl [0, 1, 3, 4, 5] rfl)
            · skip
              refine lv_iconst (v := 1) hx hb dX13_sumAt_53 (by decide) ?_
              refine lv_goto (tgt := 139) hx hb dX13_sumAt_54 (by decide) ?_
              refine lv_iadd hx hb dX13_sumAt_139 ?_
              refine lv_istore_n (lv' := [(3, .int (x5_3 + 1)), (5, .int 0), (4, .int (nI t5)), (0, .ref (ad mb)), (1, .int x), (2, .int y)]) hx hb dX13_sumAt_140 rfl hl (by decide) rfl (fun ls hl => ?_)
              refine lv_iinc (v := ((nI t5) + 1)) (lv' := [(4, .int ((nI t5) + 1)), (3, .int (x5_3 + 1)), (5, .int 0), (0, .ref (ad mb)), (1, .int x), (2, .int y)]) hx hb dX13_sumAt_141 hl (k := 2) rfl rfl (by decide) rfl (fun ls hl => ?_)
              refine lv_goto (tgt := 5) hx hb dX13_sumAt_144 (by decide) ?_
              exact ih_5 (t5 + 1) (x5_3 + 1) (by omega) (by omega) (by rw [s_X13_sumAt_5, ← e_x5_3, s_X13_sumAt_5s, if_pos c_24, if_neg c_38, if_pos c_50]) ls (by rw [(show nI (t5 + 1) = nI t5 + 1 by exact nI_succ _)]; exact lv_sub hl [0, 1, 3, 4, 5] rfl)
          · skip
            refine lv_iconst (v := 1) hx hb dX13_sumAt_41 (by decide) ?_
            refine lv_goto (tgt := 46) hx hb dX13_sumAt_42 (by decide) ?_
            refine lv_istore (lv' := [(5, .int 1), (4, .int (nI t5)), (3, .int x5_3), (0, .ref (ad mb)), (1, .int x), (2, .int y)]) hx hb dX13_sumAt_46 hl (by decide) rfl (fun ls hl => ?_)
            refine lv_iload_n hx hb dX13_sumAt_48 rfl (lv_at hl 2 rfl) ?_
            refine lv_iload_n hx hb dX13_sumAt_49 rfl (lv_at hl 5 rfl) ?_
            refine lv_if_ne (tgt := 57) hx hb dX13_sumAt_50 (by decide) (fun c_50 => ?_) (fun c_50 => ?_)
            · skip
              refine lv_iload_n hx hb dX13_sumAt_57 rfl (lv_at hl 5 rfl) ?_
              refine lv_iconst (v := 1) hx hb dX13_sumAt_58 (by decide) ?_
              refine lv_icmp_ne (tgt := 72) hx hb dX13_sumAt_59 (by decide) (fun c_59 => ?_) (fun c_59 => ?_)
              · skip
                refine lv_iload_n hx hb dX13_sumAt_72 rfl (lv_at hl 5 rfl) ?_
                refine lv_iconst (v := 2) hx hb dX13_sumAt_73 (by decide) ?_
                refine lv_icmp_ne (tgt := 87) hx hb dX13_sumAt_74 (by decide) (fun c_74 => ?_) (fun c_74 => ?_)
                · skip
                  refine lv_iload_n hx hb dX13_sumAt_87 rfl (lv_at hl 5 rfl) ?_
                  refine lv_iconst (v := 3) hx hb dX13_sumAt_88 (by decide) ?_
                  refine lv_icmp_ne (tgt := 111) hx hb dX13_sumAt_89 (by decide) (fun c_89 => ?_) (fun c_89 => ?_)
                  · skip
                    refine lv_iload_n hx hb dX13_sumAt_111 rfl (lv_at hl 5 rfl) ?_
                    refine lv_iconst (v := 4) hx hb dX13_sumAt_112 (by decide) ?_
                    refine lv_icmp_ne (tgt := 135) hx hb dX13_sumAt_113 (by decide) (fun c_113 => ?_) (fun c_113 => ?_)
                    · skip
                      refine lv_iconst (v := 1) hx hb dX13_sumAt_135 (by decide) ?_
                      refine lv_iload hx hb dX13_sumAt_136 (lv_at hl 1 rfl) ?_
                      refine lv_ishl hx hb dX13_sumAt_138 ?_
                      refine lv_iadd hx hb dX13_sumAt_139 ?_
                      refine lv_istore_n (lv' := [(3, .int (x5_3 + (1 <<< ((nI t5) &&& 31)))), (5, .int 1), (4, .int (nI t5)), (0, .ref (ad mb)), (1, .int x), (2, .int y)]) hx hb dX13_sumAt_140 rfl hl (by decide) rfl (fun ls hl => ?_)
                      refine lv_iinc (v := ((nI t5) + 1)) (lv' := [(4, .int ((nI t5) + 1)), (3, .int (x5_3 + (1 <<< ((nI t5) &&& 31)))), (5, .int 1), (0, .ref (ad mb)), (1, .int x), (2, .int y)]) hx hb dX13_sumAt_141 hl (k := 2) rfl rfl (by decide) rfl (fun ls hl => ?_)
                      refine lv_goto (tgt := 5) hx hb dX13_sumAt_144 (by decide) ?_
                      exact ih_5 (t5 + 1) (x5_3 + (1 <<< ((nI t5) &&& 31))) (by omega) (by omega) (by rw [s_X13_sumAt_5, ← e_x5_3, s_X13_sumAt_5s, if_pos c_24, if_pos c_38, if_neg c_50, if_neg c_59, if_neg c_74, if_neg c_89, if_neg c_113]) ls (by rw [(show nI (t5 + 1) = nI t5 + 1 by exact nI_succ _)]; exact lv_sub hl [0, 1, 3, 4, 5] rfl)
                    · skip
                      refine lv_iload hx hb dX13_sumAt_116 (lv_at hl 0 rfl) ?_
                      refine lv_if_eq (tgt := 125) hx hb dX13_sumAt_118 (by decide) (fun c_118 => ?_) (fun c_118 => ?_)
                      · exact absurd c_118 (by decide)
                      · clear c_118
                        refine lv_iconst (v := 0) hx hb dX13_sumAt_121 (by decide) ?_
                        refine lv_goto (tgt := 139) hx hb dX13_sumAt_122 (by decide) ?_
                        refine lv_iadd hx hb dX13_sumAt_139 ?_
                        refine lv_istore_n (lv' := [(3, .int (x5_3 + 0)), (5, .int 1), (4, .int (nI t5)), (0, .ref (ad mb)), (1, .int x), (2, .int y)]) hx hb dX13_sumAt_140 rfl hl (by decide) rfl (fun ls hl => ?_)
                        refine lv_iinc (v := ((nI t5) + 1)) (lv' := [(4, .int ((nI t5) + 1)), (3, .int (x5_3 + 0)), (5, .int 1), (0, .ref (ad mb)), (1, .int x), (2, .int y)]) hx hb dX13_sumAt_141 hl (k := 2) rfl rfl (by decide) rfl (fun ls hl => ?_)
                        refine lv_goto (tgt := 5) hx hb dX13_sumAt_144 (by decide) ?_
                        exact ih_5 (t5 + 1) (x5_3 + 0) (by omega) (by omega) (by rw [s_X13_sumAt_5, ← e_x5_3, s_X13_sumAt_5s, if_pos c_24, if_pos c_38, if_neg c_50, if_neg c_59, if_neg c_74, if_neg c_89, if_pos c_113]) ls (by rw [(show nI (t5 + 1) = nI t5 + 1 by exact nI_succ _)]; exact lv_sub hl [0, 1, 3, 4, 5] rfl)
                  · skip
                    refine lv_iload hx hb dX13_sumAt_92 (lv_at hl 0 rfl) ?_
                    refine lv_if_eq (tgt := 107) hx hb dX13_sumAt_94 (by decide) (fun c_94 => ?_) (fun c_94 => ?_)
                    · exact absurd c_94 (by decide)
                    · clear c_94
                      refine lv_aload_n hx hb dX13_sumAt_97 rfl (lv_at hl 3 rfl) ?_
                      refine q_get (v := .ref (ad (mb + 17))) (fs := modF ad mb mv) X hK hP fX13_sumAt_81 h_mb m_mb rfl dX13_sumAt_98 ?_
                      refine lv_iload hx hb dX13_sumAt_101 (lv_at hl 1 rfl) ?_
                      refine q_ialdN (f := hotF) (k := 24) X hK hP t5 h_mb_17 m_mb_17 (by omega) (by decide) dX13_sumAt_103 ?_
                      refine lv_goto (tgt := 139) hx hb dX13_sumAt_104 (by decide) ?_
                      refine lv_iadd hx hb dX13_sumAt_139 ?_
                      refine lv_istore_n (lv' := [(3, .int (x5_3 + (hotF t5))), (5, .int 1), (4, .int (nI t5)), (0, .ref (ad mb)), (1, .int x), (2, .int y)]) hx hb dX13_sumAt_140 rfl hl (by decide) rfl (fun ls hl => ?_)
                      refine lv_iinc (v := ((nI t5) + 1)) (lv' := [(4, .int ((nI t5) + 1)), (3, .int (x5_3 + (hotF t5))), (5, .int 1), (0, .ref (ad mb)), (1, .int x), (2, .int y)]) hx hb dX13_sumAt_141 hl (k := 2) rfl rfl (by decide) rfl (fun ls hl => ?_)
                      refine lv_goto (tgt := 5) hx hb dX13_sumAt_144 (by decide) ?_
                      exact ih_5 (t5 + 1) (x5_3 + (hotF t5)) (by omega) (by omega) (by rw [s_X13_sumAt_5, ← e_x5_3, s_X13_sumAt_5s, if_pos c_24, if_pos c_38, if_neg c_50, if_neg c_59, if_neg c_74, if_pos c_89]) ls (by rw [(show nI (t5 + 1) = nI t5 + 1 by exact nI_succ _)]; exact lv_sub hl [0, 1, 3, 4, 5] rfl)
                · skip
                  refine lv_aload_n hx hb dX13_sumAt_77 rfl (lv_at hl 3 rfl) ?_
                  refine q_get (v := .ref (ad (mb + 15))) (fs := modF ad mb mv) X hK hP fX13_sumAt_75 h_mb m_mb rfl dX13_sumAt_78 ?_
                  refine lv_iload hx hb dX13_sumAt_81 (lv_at hl 1 rfl) ?_
                  refine q_ialdN (f := wideF) (k := 24) X hK hP t5 h_mb_15 m_mb_15 (by omega) (by decide) dX13_sumAt_83 ?_
                  refine lv_goto (tgt := 139) hx hb dX13_sumAt_84 (by decide) ?_
                  refine lv_iadd hx hb dX13_sumAt_139 ?_
                  refine lv_istore_n (lv' := [(3, .int (x5_3 + (wideF t5))), (5, .int 1), (4, .int (nI t5)), (0, .ref (ad mb)), (1, .int x), (2, .int y)]) hx hb dX13_sumAt_140 rfl hl (by decide) rfl (fun ls hl => ?_)
                  refine lv_iinc (v := ((nI t5) + 1)) (lv' := [(4, .int ((nI t5) + 1)), (3, .int (x5_3 + (wideF t5))), (5, .int 1), (0, .ref (ad mb)), (1, .int x), (2, .int y)]) hx hb dX13_sumAt_141 hl (k := 2) rfl rfl (by decide) rfl (fun ls hl => ?_)
                  refine lv_goto (tgt := 5) hx hb dX13_sumAt_144 (by decide) ?_
                  exact ih_5 (t5 + 1) (x5_3 + (wideF t5)) (by omega) (by omega) (by rw [s_X13_sumAt_5, ← e_x5_3, s_X13_sumAt_5s, if_pos c_24, if_pos c_38, if_neg c_50, if_neg c_59, if_pos c_74]) ls (by rw [(show nI (t5 + 1) = nI t5 + 1 by exact nI_succ _)]; exact lv_sub hl [0, 1, 3, 4, 5] rfl)
              · skip
                refine lv_aload_n hx hb dX13_sumAt_62 rfl (lv_at hl 3 rfl) ?_
                refine q_get (v := .ref (ad (mb + 13))) (fs := modF ad mb mv) X hK hP fX13_sumAt_69 h_mb m_mb rfl dX13_sumAt_63 ?_
                refine lv_iload hx hb dX13_sumAt_66 (lv_at hl 1 rfl) ?_
                refine q_ialdN (f := heavyF) (k := 24) X hK hP t5 h_mb_13 m_mb_13 (by omega) (by decide) dX13_sumAt_68 ?_
                refine lv_goto (tgt := 139) hx hb dX13_sumAt_69 (by decide) ?_
                refine lv_iadd hx hb dX13_sumAt_139 ?_
                refine lv_istore_n (lv' := [(3, .int (x5_3 + (heavyF t5))), (5, .int 1), (4, .int (nI t5)), (0, .ref (ad mb)), (1, .int x), (2, .int y)]) hx hb dX13_sumAt_140 rfl hl (by decide) rfl (fun ls hl => ?_)
                refine lv_iinc (v := ((nI t5) + 1)) (lv' := [(4, .int ((nI t5) + 1)), (3, .int (x5_3 + (heavyF t5))), (5, .int 1), (0, .ref (ad mb)), (1, .int x), (2, .int y)]) hx hb dX13_sumAt_141 hl (k := 2) rfl rfl (by decide) rfl (fun ls hl => ?_)
                refine lv_goto (tgt := 5) hx hb dX13_sumAt_144 (by decide) ?_
                exact ih_5 (t5 + 1) (x5_3 + (heavyF t5)) (by omega) (by omega) (by rw [s_X13_sumAt_5, ← e_x5_3, s_X13_sumAt_5s, if_pos c_24, if_pos c_38, if_neg c_50, if_pos c_59]) ls (by rw [(show nI (t5 + 1) = nI t5 + 1 by exact nI_succ _)]; exact lv_sub hl [0, 1, 3, 4, 5] rfl)
            · skip
              refine lv_iconst (v := 1) hx hb dX13_sumAt_53 (by decide) ?_
              refine lv_goto (tgt := 139) hx hb dX13_sumAt_54 (by decide) ?_
              refine lv_iadd hx hb dX13_sumAt_139 ?_
              refine lv_istore_n (lv' := [(3, .int (x5_3 + 1)), (5, .int 1), (4, .int (nI t5)), (0, .ref (ad mb)), (1, .int x), (2, .int y)]) hx hb dX13_sumAt_140 rfl hl (by decide) rfl (fun ls hl => ?_)
              refine lv_iinc (v := ((nI t5) + 1)) (lv' := [(4, .int ((nI t5) + 1)), (3, .int (x5_3 + 1)), (5, .int 1), (0, .ref (ad mb)), (1, .int x), (2, .int y)]) hx hb dX13_sumAt_141 hl (k := 2) rfl rfl (by decide) rfl (fun ls hl => ?_)
              refine lv_goto (tgt := 5) hx hb dX13_sumAt_144 (by decide) ?_
              exact ih_5 (t5 + 1) (x5_3 + 1) (by omega) (by omega) (by rw [s_X13_sumAt_5, ← e_x5_3, s_X13_sumAt_5s, if_pos c_24, if_pos c_38, if_pos c_50]) ls (by rw [(show nI (t5 + 1) = nI t5 + 1 by exact nI_succ _)]; exact lv_sub hl [0, 1, 3, 4, 5] rfl)
        · skip
          refine lv_goto (tgt := 141) hx hb dX13_sumAt_27 (by decide) ?_
          refine lv_iinc (v := ((nI t5) + 1)) (lv' := [(4, .int ((nI t5) + 1)), (3, .int x5_3), (0, .ref (ad mb)), (1, .int x), (2, .int y)]) hx hb dX13_sumAt_141 hl (k := 0) rfl rfl (by decide) rfl (fun ls hl => ?_)
          refine lv_goto (tgt := 5) hx hb dX13_sumAt_144 (by decide) ?_
          exact ih_5 (t5 + 1) x5_3 (by omega) (by omega) (by rw [s_X13_sumAt_5, ← e_x5_3, s_X13_sumAt_5s, if_neg c_24]) ls (by rw [(show nI (t5 + 1) = nI t5 + 1 by exact nI_succ _)]; exact lv_sub hl [0, 1, 2, 3, 4] rfl)
  exact loop_5 (nt + 1) 0 0 (by omega) (by omega) (by rfl) ls (lv_sub hl [0, 1, 2, 3, 4] rfl)
set_option maxRecDepth 20000 in
theorem fX13_priceOf_40 : FL wsX13_priceOf RX13 40 12 3 := ⟨RX13, TX13, 67, rfl, by decide +kernel, by decide, by decide +kernel⟩
set_option maxRecDepth 20000 in
theorem fX13_priceOf_69 : FL wsX13_priceOf RX13 69 12 13 := ⟨RX13, TX13, 67, rfl, by decide +kernel, by decide, by decide +kernel⟩
set_option maxRecDepth 20000 in
theorem fX13_priceOf_87 : FL wsX13_priceOf RX13 87 12 19 := ⟨RX13, TX13, 67, rfl, by decide +kernel, by decide, by decide +kernel⟩
set_option maxRecDepth 20000 in
theorem fX13_priceOf_90 : FL wsX13_priceOf RX13 90 12 20 := ⟨RX13, TX13, 67, rfl, by decide +kernel, by decide, by decide +kernel⟩
def s_X13_priceOf_2 (heavyF : Nat → Int32) (postToF : Nat → Int32) (priceF : Nat → Int32) (j : Nat) : Nat → Nat → Int32
  | 0, _ => (-1)
  | r + 1, t2 => if (postToF t2) < (heavyF j) then s_X13_priceOf_2 heavyF postToF priceF j r (t2 + 1) else (priceF t2)
def s_X13_priceOf (nq : Nat) (heavyF : Nat → Int32) (postToF : Nat → Int32) (priceF : Nat → Int32) (j : Nat) : Int32 := (s_X13_priceOf_2 heavyF postToF priceF j nq 0)
set_option maxHeartbeats 4000000 in
set_option maxRecDepth 100000 in
theorem c_X13_priceOf (l : Launch) (D : va_G) (cB cI cJ : ClassId) (ad : Nat → Nat) (n : Nat) (M : Nat → va_E) (mb : Nat) (nt : Nat) (nc : Nat) (np : Nat) (nq : Nat) (mv : Nat → Int32) (toldF : Nat → Int32) (heavyF : Nat → Int32) (postToF : Nat → Int32) (priceF : Nat → Int32) (j : Nat) (h_mb : mb < n) (h_mb_3 : mb + 3 < n) (h_mb_13 : mb + 13 < n) (h_mb_19 : mb + 19 < n) (h_mb_20 : mb + 20 < n) (m_mb : M mb = .inr (12, modF ad mb mv)) (m_mb_3 : M (mb + 3) = .inl (cI, 14, .inl toldF)) (m_mb_13 : M (mb + 13) = .inl (cI, 24, .inl heavyF)) (m_mb_19 : M (mb + 19) = .inl (cI, 12, .inl postToF)) (m_mb_20 : M (mb + 20) = .inl (cI, 12, .inl priceF)) (k0 : toldF 0 = nI np) (hnp : np ≤ 4) (k1 : toldF 1 = nI nc) (hnc : nc ≤ 5) (k2 : toldF 2 = nI nt) (hnt : nt ≤ 12) (k3 : toldF 3 = nI nq) (hnq : nq ≤ 6) (hj : j < 12) : cR l D cB cI cJ ad n M yX13_priceOf wsX13_priceOf 0 0 [.ref (ad mb), .int (nI j)] (s_X13_priceOf nq heavyF postToF priceF j) := by
  refine q_body (cc := cX13_priceOf) (maxL := 3) (ret := (some .int)) (by decide) rfl (Nat.le_of_ble_eq_true rfl) ?_
  intro p e s m args below meth c ls X hr hlocks hK hP hl
  obtain ⟨hx, hb, hml, hown, hts⟩ := id X
  have hS : va_S (ipA ad n) s.heap s.heap [] := va_S.rf
  have hl : lv_has ls 3 [(0, .ref (ad mb)), (1, .int (nI j))] := hl
  refine lv_iconst (v := 0) hx hb dX13_priceOf_0 (by decide) ?_
  refine lv_istore_n (lv' := [(2, .int 0), (0, .ref (ad mb)), (1, .int (nI j))]) hx hb dX13_priceOf_1 rfl hl (by decide) rfl (fun ls hl => ?_)
  have loop_2 : ∀ (fuel : Nat) (t2 : Nat), nq - (t2) < fuel → t2 ≤ nq → s_X13_priceOf_2 heavyF postToF priceF j (nq - (t2)) t2 = s_X13_priceOf nq heavyF postToF priceF j → ∀ (ls : Array Slot), lv_has ls 3 [(2, .int (nI t2)), (0, .ref (ad mb)), (1, .int (nI j))] → W p l e (rmOf 0 0) s m args below meth c s.heap [] 0 0 (MQ below (vp_Si (fun r9 => r9 = s_X13_priceOf nq heavyF postToF priceF j)) args s 0 0 (fun _ => False)) (F0 m 2 ls []) := by
    intro fuel
    induction fuel with
    | zero =>
      intro t2 hz
      exact absurd hz (Nat.not_lt_zero _)
    | succ fuel ih_2 =>
      intro t2 hz_2 h_t2 hB_2 ls hl
      skip
      refine lv_iload_n hx hb dX13_priceOf_2 rfl (lv_at hl 0 rfl) ?_
      refine lv_aload_n hx hb dX13_priceOf_3 rfl (lv_at hl 1 rfl) ?_
      refine q_get (v := .ref (ad (mb + 3))) (fs := modF ad mb mv) X hK hP fX13_priceOf_40 h_mb m_mb rfl dX13_priceOf_4 ?_
      refine lv_iconst (v := 3) hx hb dX13_priceOf_7 (by decide) ?_
      refine q_ialdN (f := toldF) (k := 14) X hK hP 3 h_mb_3 m_mb_3 (by decide) (by decide) dX13_priceOf_8 ?_
      refine lv_icmp_ge (tgt := 40) hx hb dX13_priceOf_9 (by decide) (fun c_9 => ?_) (fun c_9 => ?_)
      · rw [k3] at c_9
        have h9_2 : t2 = nq := eq_of_le (t := t2) (k := nq) c_9 (by omega) h_t2
        subst t2
        refine lv_iconst (v := (-1)) hx hb dX13_priceOf_40 (by decide) ?_
        exact q_iret hb hx hr hlocks (by rw [← hB_2, Nat.sub_self, s_X13_priceOf_2]) dX13_priceOf_41
      · rw [k3] at c_9
        have h9_2 : t2 < nq := lt_of_nlt (t := t2) (k := nq) c_9 (by omega) h_t2
        refine lv_aload_n hx hb dX13_priceOf_12 rfl (lv_at hl 1 rfl) ?_
        refine q_get (v := .ref (ad (mb + 13))) (fs := modF ad mb mv) X hK hP fX13_priceOf_69 h_mb m_mb rfl dX13_priceOf_13 ?_
        refine lv_iload_n hx hb dX13_priceOf_16 rfl (lv_at hl 2 rfl) ?_
        refine q_ialdN (f := heavyF) (k := 24) X hK hP j h_mb_13 m_mb_13 (by omega) (by decide) dX13_priceOf_17 ?_
        refine lv_aload_n hx hb dX13_priceOf_18 rfl (lv_at hl 1 rfl) ?_
        refine q_get (v := .ref (ad (mb + 19))) (fs := modF ad mb mv) X hK hP fX13_priceOf_87 h_mb m_mb rfl dX13_priceOf_19 ?_
        refine lv_iload_n hx hb dX13_priceOf_22 rfl (lv_at hl 0 rfl) ?_
        refine q_ialdN (f := postToF) (k := 12) X hK hP t2 h_mb_19 m_mb_19 (by omega) (by decide) dX13_priceOf_23 ?_
        refine lv_icmp_gt (tgt := 34) hx hb dX13_priceOf_24 (by decide) (fun c_24 => ?_) (fun c_24 => ?_)
        · skip
          refine lv_iinc (v := ((nI t2) + 1)) (lv' := [(2, .int ((nI t2) + 1)), (0, .ref (ad mb)), (1, .int (nI j))]) hx hb dX13_priceOf_34 hl (k := 0) rfl rfl (by decide) rfl (fun ls hl => ?_)
          refine lv_goto (tgt := 2) hx hb dX13_priceOf_37 (by decide) ?_
          exact ih_2 (t2 + 1)  (by omega) (by omega) (by rw [← hB_2, show nq - (t2) = (nq - (t2 + 1)) + 1 by omega, s_X13_priceOf_2, if_pos c_24]) ls (by rw [(show nI (t2 + 1) = nI t2 + 1 by exact nI_succ _)]; exact lv_sub hl [0, 1, 2] rfl)
        · skip
          refine lv_aload_n hx hb dX13_priceOf_27 rfl (lv_at hl 1 rfl) ?_
          refine q_get (v := .ref (ad (mb + 20))) (fs := modF ad mb mv) X hK hP fX13_priceOf_90 h_mb m_mb rfl dX13_priceOf_28 ?_
          refine lv_iload_n hx hb dX13_priceOf_31 rfl (lv_at hl 0 rfl) ?_
          refine q_ialdN (f := priceF) (k := 12) X hK hP t2 h_mb_20 m_mb_20 (by omega) (by decide) dX13_priceOf_32 ?_
          exact q_iret hb hx hr hlocks (by rw [← hB_2, show nq - t2 = (nq - (t2 + 1)) + 1 by omega, s_X13_priceOf_2, if_neg c_24]) dX13_priceOf_33
  exact loop_2 (nq + 1) 0  (by omega) (by omega) (by rw [s_X13_priceOf] <;> rfl) ls (lv_sub hl [0, 1, 2] rfl)
