/-! PoundsOverModel -/
def modF (ad : Nat → Nat) (mb : Nat) (mv : Nat → Int32) : List Value := [.ref (ad (mb + 1)), .ref (ad (mb + 2)), .int (mv 2), .ref (ad (mb + 3)), .ref (ad (mb + 4)), .ref (ad (mb + 5)), .ref (ad (mb + 6)), .ref (ad (mb + 7)), .ref (ad (mb + 8)), .ref (ad (mb + 9)), .ref (ad (mb + 10)), .ref (ad (mb + 11)), .ref (ad (mb + 12)), .ref (ad (mb + 13)), .ref (ad (mb + 14)), .ref (ad (mb + 15)), .ref (ad (mb + 16)), .ref (ad (mb + 17)), .ref (ad (mb + 18)), .ref (ad (mb + 19)), .ref (ad (mb + 20)), .ref (ad (mb + 21)), .ref (ad (mb + 22)), .ref (ad (mb + 23)), .int (mv 24), .int (mv 25), .int (mv 26), .int (mv 27), .int (mv 28), .int (mv 29), .int (mv 30), .int (mv 31), .int (mv 32), .int (mv 33), .ref (ad (mb + 24)), .ref (ad (mb + 25)), .int (mv 36), .int (mv 37), .int (mv 38), .ref (ad (mb + 26)), .ref (ad (mb + 27)), .ref (ad (mb + 28)), .ref (ad (mb + 29)), .ref (ad (mb + 30)), .ref (ad (mb + 31)), .int (mv 45), .int (mv 46), .int (mv 47), .int (mv 48), .ref (ad (mb + 32)), .ref (ad (mb + 33)), .ref (ad (mb + 34)), .ref (ad (mb + 35)), .int (mv 53), .ref (ad (mb + 36)), .ref (ad (mb + 37)), .int (mv 56), .int (mv 57), .int (mv 58), .int (mv 59), .ref (ad (mb + 38)), .ref (ad (mb + 39)), .ref (ad (mb + 40)), .ref (ad (mb + 41)), .ref (ad (mb + 42)), .ref (ad (mb + 43)), .ref (ad (mb + 44))]
set_option maxRecDepth 20000 in
theorem fX13_thrown_173 : FL wsX13_thrown RX13 173 12 2 := ⟨RX13, TX13, 67, rfl, by decide +kernel, by decide, by decide +kernel⟩
def s_X13_thrown (mv : Nat → Int32) : Int32 := (mv 2)
set_option maxHeartbeats 4000000 in
set_option maxRecDepth 100000 in
theorem c_X13_thrown (l : Launch) (D : va_G) (cB cI cJ : ClassId) (ad : Nat → Nat) (n : Nat) (M : Nat → va_E) (mb : Nat) (mv : Nat → Int32) (h_mb : mb < n) (m_mb : M mb = .inr (12, modF ad mb mv))  : cR l D cB cI cJ ad n M yX13_thrown wsX13_thrown 0 0 [.ref (ad mb)] (s_X13_thrown mv) := by
  refine q_body (cc := cX13_thrown) (maxL := 1) (ret := (some .int)) (by decide) rfl (Nat.le_of_ble_eq_true rfl) ?_
  intro p e s m args below meth c ls X hr hlocks hK hP hl
  obtain ⟨hx, hb, hml, hown, hts⟩ := id X
  have hS : va_S (ipA ad n) s.heap s.heap [] := va_S.rf
  have hl : lv_has ls 1 [(0, .ref (ad mb))] := hl
  refine lv_aload_n hx hb dX13_thrown_0 rfl (lv_at hl 0 rfl) ?_
  refine q_get (v := .int (mv 2)) (fs := modF ad mb mv) X hK hP fX13_thrown_173 h_mb m_mb rfl dX13_thrown_1 ?_
  exact q_iret hb hx hr hlocks (by rfl) dX13_thrown_4
set_option maxRecDepth 20000 in
theorem fX13_fail_173 : FL wsX13_fail RX13 173 12 2 := ⟨RX13, TX13, 67, rfl, by decide +kernel, by decide, by decide +kernel⟩
theorem fw_12_2 : FW 12 2 .int := ⟨RX13, TX13, 67, tyX13, rfl, tyX13_ok, nmX13, by decide, rfl, by decide +kernel⟩
def s_X13_fail : Int32 := 0
set_option maxHeartbeats 4000000 in
set_option maxRecDepth 100000 in
theorem c_X13_fail (l : Launch) (D : va_G) (cB cI cJ : ClassId) (ad : Nat → Nat) (n : Nat) (M : Nat → va_E) (hI : ipI ad n) (mb : Nat) (mv : Nat → Int32) (x : Int32) (h_mb : mb < n) (m_mb : M mb = .inr (12, modF ad mb mv))  : cWi l D cB cI cJ ad n M yX13_fail wsX13_fail 0 0 [.ref (ad mb), .int x] (fun r M' => r = s_X13_fail ∧ M' mb = .inr (12, modF ad mb (upd mv 2 x)) ∧ ∀ q : Nat, q ≠ mb → M' q = M q) := by
  refine q_body (cc := cX13_fail) (maxL := 2) (ret := (some .int)) (by decide) rfl (Nat.le_of_ble_eq_true rfl) ?_
  intro p e s m args below meth c ls X hr hlocks hK hP hl
  obtain ⟨hx, hb, hml, hown, hts⟩ := id X
  have hS : va_S (ipA ad n) s.heap s.heap [] := va_S.rf
  have hl : lv_has ls 2 [(0, .ref (ad mb)), (1, .int x)] := hl
  refine lv_aload_n hx hb dX13_fail_0 rfl (lv_at hl 0 rfl) ?_
  refine lv_iload_n hx hb dX13_fail_1 rfl (lv_at hl 1 rfl) ?_
  refine q_put (fs := modF ad mb mv) (fs' := modF ad mb (upd mv 2 x)) X hK hI hP hS fX13_fail_173 fw_12_2 h_mb m_mb rfl rfl (Nat.le_of_ble_eq_true rfl) rfl dX13_fail_2 (fun H locs hP hS => ?_)
  refine lv_iconst (v := 0) hx hb dX13_fail_5 (by decide) ?_
  exact q_wzret X hr hlocks hP hS (rfl) ⟨(by rfl), (va_up_self M mb (.inr (12, modF ad mb (upd mv 2 x)))), (fun q n0 => (va_up_ne _ _ n0))⟩ dX13_fail_6
def s_X13_isIn (x : Int64) (y : Int64) (z : Int64) : Int32 := if x < y then 0 else if z < x then 0 else 1
set_option maxHeartbeats 4000000 in
set_option maxRecDepth 100000 in
theorem c_X13_isIn (l : Launch) (D : va_G) (cB cI cJ : ClassId) (ad : Nat → Nat) (n : Nat) (M : Nat → va_E) (x : Int64) (y : Int64) (z : Int64)    : cR l D cB cI cJ ad n M yX13_isIn wsX13_isIn 0 0 [.long x, .long y, .long z] (s_X13_isIn x y z) := by
  refine q_body (cc := cX13_isIn) (maxL := 6) (ret := (some .boolean)) (by decide) rfl (Nat.le_of_ble_eq_true rfl) ?_
  intro p e s m args below meth c ls X hr hlocks hK hP hl
  obtain ⟨hx, hb, hml, hown, hts⟩ := id X
  have hS : va_S (ipA ad n) s.heap s.heap [] := va_S.rf
  have hl : lv_has ls 6 [(0, .long x), (2, .long y), (4, .long z)] := hl
  refine lv_lload_n hx hb dX13_isIn_0 rfl (lv_at hl 0 rfl) ?_
  refine lv_lload_n hx hb dX13_isIn_1 rfl (lv_at hl 1 rfl) ?_
  refine q_lcmp_lt (tgt := 17) hx hb dX13_isIn_2 dX13_isIn_3 (by decide) (fun c_3 => ?_) (fun c_3 => ?_)
  · skip
    refine lv_iconst (v := 0) hx hb dX13_isIn_17 (by decide) ?_
    exact q_zret X hr hlocks (rfl) (by rw [s_X13_isIn, if_pos c_3]) dX13_isIn_18
  · skip
    refine lv_lload_n hx hb dX13_isIn_6 rfl (lv_at hl 0 rfl) ?_
    refine lv_lload hx hb dX13_isIn_7 (lv_at hl 2 rfl) ?_
    refine q_lcmp_gt (tgt := 17) hx hb dX13_isIn_9 dX13_isIn_10 (by decide) (fun c_10 => ?_) (fun c_10 => ?_)
    · skip
      refine lv_iconst (v := 0) hx hb dX13_isIn_17 (by decide) ?_
      exact q_zret X hr hlocks (rfl) (by rw [s_X13_isIn, if_neg c_3, if_pos c_10]) dX13_isIn_18
    · skip
      refine lv_iconst (v := 1) hx hb dX13_isIn_13 (by decide) ?_
      refine lv_goto (tgt := 18) hx hb dX13_isIn_14 (by decide) ?_
      exact q_zret X hr hlocks (rfl) (by rw [s_X13_isIn, if_neg c_3, if_neg c_10]) dX13_isIn_18
theorem isIn01 (x y z : Int64) : narrow .boolean (.int (s_X13_isIn x y z)) = .int (s_X13_isIn x y z) := by
  unfold s_X13_isIn
  split
  · rfl
  · split <;> rfl
theorem isIn_vp {x t : Int32} {k N : Nat} (ht : t = nI k) (hk : k ≤ N) (hN : N < 2 ^ 31) (h : ¬ s_X13_isIn x.toInt64 0 ((t - 1).toInt64) = 0) : vp_in x N := by
  unfold s_X13_isIn at h
  split at h
  · exact absurd rfl h
  · rename_i h1
    split at h
    · exact absurd rfl h
    · rename_i h2
      have e1 : ¬ x < 0 := fun q => h1 (by rw [Int64.lt_iff_toInt_lt, Int32.toInt_toInt64]; exact Int32.lt_iff_toInt_lt.mp q)
      have e2 : ¬ t - 1 < x := fun q => h2 (by rw [Int64.lt_iff_toInt_lt, Int32.toInt_toInt64, Int32.toInt_toInt64]; exact Int32.lt_iff_toInt_lt.mp q)
      obtain ⟨j, hj, rfl⟩ := nI_of e1
      subst ht
      cases k with
      | zero => exact absurd (show nI 0 - 1 < nI j from by rw [Int32.lt_iff_toInt_lt, nI_toInt hj]; exact Int.lt_of_lt_of_le (by decide) (Int.natCast_nonneg j)) e2
      | succ k =>
        rw [nI_pred, nI_ltI (by omega) hj] at e2
        exact vp_in_nI (by omega) hN
theorem isCase_vp {f : Nat → Int32} {nc : Nat} {x : Int32} (k1 : f 1 = nI nc) (hnc : nc ≤ 5) (h : ¬ s_X13_isIn x.toInt64 0 ((f 1 - 1).toInt64) = 0) : vp_in x 10 := isIn_vp k1 (by omega) (by decide) h
theorem isPerson_vp {f : Nat → Int32} {np : Nat} {x : Int32} (k0 : f 0 = nI np) (hnp : np ≤ 4) (h : ¬ s_X13_isIn x.toInt64 0 ((f 0 - 1).toInt64) = 0) : vp_in x 8 := isIn_vp k0 (by omega) (by decide) h
theorem isThing_vp {f : Nat → Int32} {nt : Nat} {x : Int32} (k2 : f 2 = nI nt) (hnt : nt ≤ 12) (h : ¬ s_X13_isIn x.toInt64 0 ((f 2 - 1).toInt64) = 0) : vp_in x 24 := isIn_vp k2 (by omega) (by decide) h

set_option maxRecDepth 20000 in
theorem fX13_isPerson_40 : FL wsX13_isPerson RX13 40 12 3 := ⟨RX13, TX13, 67, rfl, by decide +kernel, by decide, by decide +kernel⟩
theorem yd_X13_isIn : YD yX13_isIn 3 := ⟨by decide +kernel, by decide +kernel, by decide +kernel⟩
def s_X13_isPerson (toldF : Nat → Int32) (x : Int32) : Int32 := (s_X13_isIn x.toInt64 0 (((toldF 0) - 1).toInt64))
set_option maxHeartbeats 4000000 in
set_option maxRecDepth 100000 in
theorem c_X13_isPerson (l : Launch) (D : va_G) (cB cI cJ : ClassId) (ad : Nat → Nat) (n : Nat) (M : Nat → va_E) (mb : Nat) (nt : Nat) (nc : Nat) (np : Nat) (nq : Nat) (mv : Nat → Int32) (toldF : Nat → Int32) (x : Int32) (h_mb : mb < n) (h_mb_3 : mb + 3 < n) (m_mb : M mb = .inr (12, modF ad mb mv)) (m_mb_3 : M (mb + 3) = .inl (cI, 14, .inl toldF)) (k0 : toldF 0 = nI np) (hnp : np ≤ 4) (k1 : toldF 1 = nI nc) (hnc : nc ≤ 5) (k2 : toldF 2 = nI nt) (hnt : nt ≤ 12) (k3 : toldF 3 = nI nq) (hnq : nq ≤ 6) : cR l D cB cI cJ ad n M yX13_isPerson wsX13_isPerson 1 25 [.ref (ad mb), .int x] (s_X13_isPerson toldF x) := by
  refine q_body (cc := cX13_isPerson) (maxL := 2) (ret := (some .boolean)) (by decide) rfl (Nat.le_of_ble_eq_true rfl) ?_
  intro p e s m args below meth c ls X hr hlocks hK hP hl
  obtain ⟨hx, hb, hml, hown, hts⟩ := id X
  have hS : va_S (ipA ad n) s.heap s.heap [] := va_S.rf
  have hl : lv_has ls 2 [(0, .ref (ad mb)), (1, .int x)] := hl
  refine lv_iload_n hx hb dX13_isPerson_0 rfl (lv_at hl 1 rfl) ?_
  refine lv_i2l hx hb dX13_isPerson_1 rfl ?_
  refine lv_lconst (v := 0) hx hb dX13_isPerson_2 (by decide) ?_
  refine lv_aload_n hx hb dX13_isPerson_3 rfl (lv_at hl 0 rfl) ?_
  refine q_get (v := .ref (ad (mb + 3))) (fs := modF ad mb mv) X hK hP fX13_isPerson_40 h_mb m_mb rfl dX13_isPerson_4 ?_
  refine lv_iconst (v := 0) hx hb dX13_isPerson_7 (by decide) ?_
  refine q_ialdN (f := toldF) (k := 14) X hK hP 0 h_mb_3 m_mb_3 (by decide) (by decide) dX13_isPerson_8 ?_
  refine lv_iconst (v := 1) hx hb dX13_isPerson_9 (by decide) ?_
  refine lv_isub hx hb dX13_isPerson_10 ?_
  refine lv_i2l hx hb dX13_isPerson_11 rfl ?_
  refine q_rdS (As := [.long x.toInt64, .long 0, .long (((toldF 0) - 1).toInt64)]) (rest := []) (c_X13_isIn l D cB cI cJ ad n M x.toInt64 0 (((toldF 0) - 1).toInt64)   ) X hK hP hS hl.1 rfl gX13_isPerson_X13_isIn yd_X13_isIn ⟨Nat.le_of_ble_eq_true rfl, Nat.le_of_ble_eq_true rfl⟩ rfl (Nat.le_of_ble_eq_true rfl) ⟨Nat.zero_le _, Nat.zero_le _⟩ dX13_isPerson_12 ?_
  exact q_zret X hr hlocks (isIn01 _ _ _) (by rfl) dX13_isPerson_15
set_option maxRecDepth 20000 in
theorem fX13_isCase_40 : FL wsX13_isCase RX13 40 12 3 := ⟨RX13, TX13, 67, rfl, by decide +kernel, by decide, by decide +kernel⟩
def s_X13_isCase (toldF : Nat → Int32) (x : Int32) : Int32 := (s_X13_isIn x.toInt64 0 (((toldF 1) - 1).toInt64))
set_option maxHeartbeats 4000000 in
set_option maxRecDepth 100000 in
theorem c_X13_isCase (l : Launch) (D : va_G) (cB cI cJ : ClassId) (ad : Nat → Nat) (n : Nat) (M : Nat → va_E) (mb : Nat) (nt : Nat) (nc : Nat) (np : Nat) (nq : Nat) (mv : Nat → Int32) (toldF : Nat → Int32) (x : Int32) (h_mb : mb < n) (h_mb_3 : mb + 3 < n) (m_mb : M mb = .inr (12, modF ad mb mv)) (m_mb_3 : M (mb + 3) = .inl (cI, 14, .inl toldF)) (k0 : toldF 0 = nI np) (hnp : np ≤ 4) (k1 : toldF 1 = nI nc) (hnc : nc ≤ 5) (k2 : toldF 2 = nI nt) (hnt : nt ≤ 12) (k3 : toldF 3 = nI nq) (hnq : nq ≤ 6) : cR l D cB cI cJ ad n M yX13_isCase wsX13_isCase 1 25 [.ref (ad mb), .int x] (s_X13_isCase toldF x) := by
  refine q_body (cc := cX13_isCase) (maxL := 2) (ret := (some .boolean)) (by decide) rfl (Nat.le_of_ble_eq_true rfl) ?_
  intro p e s m args below meth c ls X hr hlocks hK hP hl
  obtain ⟨hx, hb, hml, hown, hts⟩ := id X
  have hS : va_S (ipA ad n) s.heap s.heap [] := va_S.rf
  have hl : lv_has ls 2 [(0, .ref (ad mb)), (1, .int x)] := hl
  refine lv_iload_n hx hb dX13_isCase_0 rfl (lv_at hl 1 rfl) ?_
  refine lv_i2l hx hb dX13_isCase_1 rfl ?_
  refine lv_lconst (v := 0) hx hb dX13_isCase_2 (by decide) ?_
  refine lv_aload_n hx hb dX13_isCase_3 rfl (lv_at hl 0 rfl) ?_
  refine q_get (v := .ref (ad (mb + 3))) (fs := modF ad mb mv) X hK hP fX13_isCase_40 h_mb m_mb rfl dX13_isCase_4 ?_
  refine lv_iconst (v := 1) hx hb dX13_isCase_7 (by decide) ?_
  refine q_ialdN (f := toldF) (k := 14) X hK hP 1 h_mb_3 m_mb_3 (by decide) (by decide) dX13_isCase_8 ?_
  refine lv_iconst (v := 1) hx hb dX13_isCase_9 (by decide) ?_
  refine lv_isub hx hb dX13_isCase_10 ?_
  refine lv_i2l hx hb dX13_isCase_11 rfl ?_
  refine q_rdS (As := [.long x.toInt64, .long 0, .long (((toldF 1) - 1).toInt64)]) (rest := []) (c_X13_isIn l D cB cI cJ ad n M x.toInt64 0 (((toldF 1) - 1).toInt64)   ) X hK hP hS hl.1 rfl gX13_isCase_X13_isIn yd_X13_isIn ⟨Nat.le_of_ble_eq_true rfl, Nat.le_of_ble_eq_true rfl⟩ rfl (Nat.le_of_ble_eq_true rfl) ⟨Nat.zero_le _, Nat.zero_le _⟩ dX13_isCase_12 ?_
  exact q_zret X hr hlocks (isIn01 _ _ _) (by rfl) dX13_isCase_15
set_option maxRecDepth 20000 in
theorem fX13_isThing_40 : FL wsX13_isThing RX13 40 12 3 := ⟨RX13, TX13, 67, rfl, by decide +kernel, by decide, by decide +kernel⟩
def s_X13_isThing (toldF : Nat → Int32) (x : Int32) : Int32 := (s_X13_isIn x.toInt64 0 (((toldF 2) - 1).toInt64))
set_option maxHeartbeats 4000000 in
set_option maxRecDepth 100000 in
theorem c_X13_isThing (l : Launch) (D : va_G) (cB cI cJ : ClassId) (ad : Nat → Nat) (n : Nat) (M : Nat → va_E) (mb : Nat) (nt : Nat) (nc : Nat) (np : Nat) (nq : Nat) (mv : Nat → Int32) (toldF : Nat → Int32) (x : Int32) (h_mb : mb < n) (h_mb_3 : mb + 3 < n) (m_mb : M mb = .inr (12, modF ad mb mv)) (m_mb_3 : M (mb + 3) = .inl (cI, 14, .inl toldF)) (k0 : toldF 0 = nI np) (hnp : np ≤ 4) (k1 : toldF 1 = nI nc) (hnc : nc ≤ 5) (k2 : toldF 2 = nI nt) (hnt : nt ≤ 12) (k3 : toldF 3 = nI nq) (hnq : nq ≤ 6) : cR l D cB cI cJ ad n M yX13_isThing wsX13_isThing 1 25 [.ref (ad mb), .int x] (s_X13_isThing toldF x) := by
  refine q_body (cc := cX13_isThing) (maxL := 2) (ret := (some .boolean)) (by decide) rfl (Nat.le_of_ble_eq_true rfl) ?_
  intro p e s m args below meth c ls X hr hlocks hK hP hl
  obtain ⟨hx, hb, hml, hown, hts⟩ := id X
  have hS : va_S (ipA ad n) s.heap s.heap [] := va_S.rf
  have hl : lv_has ls 2 [(0, .ref (ad mb)), (1, .int x)] := hl
  refine lv_iload_n hx hb dX13_isThing_0 rfl (lv_at hl 1 rfl) ?_
  refine lv_i2l hx hb dX13_isThing_1 rfl ?_
  refine lv_lconst (v := 0) hx hb dX13_isThing_2 (by decide) ?_
  refine lv_aload_n hx hb dX13_isThing_3 rfl (lv_at hl 0 rfl) ?_
  refine q_get (v := .ref (ad (mb + 3))) (fs := modF ad mb mv) X hK hP fX13_isThing_40 h_mb m_mb rfl dX13_isThing_4 ?_
  refine lv_iconst (v := 2) hx hb dX13_isThing_7 (by decide) ?_
  refine q_ialdN (f := toldF) (k := 14) X hK hP 2 h_mb_3 m_mb_3 (by decide) (by decide) dX13_isThing_8 ?_
  refine lv_iconst (v := 1) hx hb dX13_isThing_9 (by decide) ?_
  refine lv_isub hx hb dX13_isThing_10 ?_
  refine lv_i2l hx hb dX13_isThing_11 rfl ?_
  refine q_rdS (As := [.long x.toInt64, .long 0, .long (((toldF 2) - 1).toInt64)]) (rest := []) (c_X13_isIn l D cB cI cJ ad n M x.toInt64 0 (((toldF 2) - 1).toInt64)   ) X hK hP hS hl.1 rfl gX13_isThing_X13_isIn yd_X13_isIn ⟨Nat.le_of_ble_eq_true rfl, Nat.le_of_ble_eq_true rfl⟩ rfl (Nat.le_of_ble_eq_true rfl) ⟨Nat.zero_le _, Nat.zero_le _⟩ dX13_isThing_12 ?_
  exact q_zret X hr hlocks (isIn01 _ _ _) (by rfl) dX13_isThing_15
def s_X13_isLetter (x : Int32) : Int32 := if x < 97 then 0 else if 122 < x then 0 else 1
set_option maxHeartbeats 4000000 in
set_option maxRecDepth 100000 in
theorem c_X13_isLetter (l : Launch) (D : va_G) (cB cI cJ : ClassId) (ad : Nat → Nat) (n : Nat) (M : Nat → va_E) (x : Int32)    : cR l D cB cI cJ ad n M yX13_isLetter wsX13_isLetter 0 0 [.int x] (s_X13_isLetter x) := by
  refine q_body (cc := cX13_isLetter) (maxL := 1) (ret := (some .boolean)) (by decide) rfl (Nat.le_of_ble_eq_true rfl) ?_
  intro p e s m args below meth c ls X hr hlocks hK hP hl
  obtain ⟨hx, hb, hml, hown, hts⟩ := id X
  have hS : va_S (ipA ad n) s.heap s.heap [] := va_S.rf
  have hl : lv_has ls 1 [(0, .int x)] := hl
  refine lv_iload_n hx hb dX13_isLetter_0 rfl (lv_at hl 0 rfl) ?_
  refine lv_bipush (v := 97) hx hb dX13_isLetter_1 (by decide) ?_
  refine lv_icmp_lt (tgt := 16) hx hb dX13_isLetter_3 (by decide) (fun c_3 => ?_) (fun c_3 => ?_)
  · skip
    refine lv_iconst (v := 0) hx hb dX13_isLetter_16 (by decide) ?_
    exact q_zret X hr hlocks (rfl) (by rw [s_X13_isLetter, if_pos c_3]) dX13_isLetter_17
  · skip
    refine lv_iload_n hx hb dX13_isLetter_6 rfl (lv_at hl 0 rfl) ?_
    refine lv_bipush (v := 122) hx hb dX13_isLetter_7 (by decide) ?_
    refine lv_icmp_gt (tgt := 16) hx hb dX13_isLetter_9 (by decide) (fun c_9 => ?_) (fun c_9 => ?_)
    · skip
      refine lv_iconst (v := 0) hx hb dX13_isLetter_16 (by decide) ?_
      exact q_zret X hr hlocks (rfl) (by rw [s_X13_isLetter, if_neg c_3, if_pos c_9]) dX13_isLetter_17
    · skip
      refine lv_iconst (v := 1) hx hb dX13_isLetter_12 (by decide) ?_
      refine lv_goto (tgt := 17) hx hb dX13_isLetter_13 (by decide) ?_
      exact q_zret X hr hlocks (rfl) (by rw [s_X13_isLetter, if_neg c_3, if_neg c_9]) dX13_isLetter_17
def s_X13_isDigit (x : Int32) : Int32 := if x < 48 then 0 else if 57 < x then 0 else 1
set_option maxHeartbeats 4000000 in
set_option maxRecDepth 100000 in
theorem c_X13_isDigit (l : Launch) (D : va_G) (cB cI cJ : ClassId) (ad : Nat → Nat) (n : Nat) (M : Nat → va_E) (x : Int32)    : cR l D cB cI cJ ad n M yX13_isDigit wsX13_isDigit 0 0 [.int x] (s_X13_isDigit x) := by
  refine q_body (cc := cX13_isDigit) (maxL := 1) (ret := (some .boolean)) (by decide) rfl (Nat.le_of_ble_eq_true rfl) ?_
  intro p e s m args below meth c ls X hr hlocks hK hP hl
  obtain ⟨hx, hb, hml, hown, hts⟩ := id X
  have hS : va_S (ipA ad n) s.heap s.heap [] := va_S.rf
  have hl : lv_has ls 1 [(0, .int x)] := hl
  refine lv_iload_n hx hb dX13_isDigit_0 rfl (lv_at hl 0 rfl) ?_
  refine lv_bipush (v := 48) hx hb dX13_isDigit_1 (by decide) ?_
  refine lv_icmp_lt (tgt := 16) hx hb dX13_isDigit_3 (by decide) (fun c_3 => ?_) (fun c_3 => ?_)
  · skip
    refine lv_iconst (v := 0) hx hb dX13_isDigit_16 (by decide) ?_
    exact q_zret X hr hlocks (rfl) (by rw [s_X13_isDigit, if_pos c_3]) dX13_isDigit_17
  · skip
    refine lv_iload_n hx hb dX13_isDigit_6 rfl (lv_at hl 0 rfl) ?_
    refine lv_bipush (v := 57) hx hb dX13_isDigit_7 (by decide) ?_
    refine lv_icmp_gt (tgt := 16) hx hb dX13_isDigit_9 (by decide) (fun c_9 => ?_) (fun c_9 => ?_)
    · skip
      refine lv_iconst (v := 0) hx hb dX13_isDigit_16 (by decide) ?_
      exact q_zret X hr hlocks (rfl) (by rw [s_X13_isDigit, if_neg c_3, if_pos c_9]) dX13_isDigit_17
    · skip
      refine lv_iconst (v := 1) hx hb dX13_isDigit_12 (by decide) ?_
      refine lv_goto (tgt := 17) hx hb dX13_isDigit_13 (by decide) ?_
      exact q_zret X hr hlocks (rfl) (by rw [s_X13_isDigit, if_neg c_3, if_neg c_9]) dX13_isDigit_17
def s_X13_isMark (x : Int32) : Int32 := if x = 59 then 1 else if x = 40 then 1 else if x = 41 then 1 else if x = 43 then 1 else if x = 45 then 1 else if x = 42 then 1 else if x = 47 then 1 else if x = 60 then 1 else if x = 61 then 1 else 0
set_option maxHeartbeats 4000000 in
set_option maxRecDepth 100000 in
theorem c_X13_isMark (l : Launch) (D : va_G) (cB cI cJ : ClassId) (ad : Nat → Nat) (n : Nat) (M : Nat → va_E) (x : Int32)    : cR l D cB cI cJ ad n M yX13_isMark wsX13_isMark 0 0 [.int x] (s_X13_isMark x) := by
  refine q_body (cc := cX13_isMark) (maxL := 1) (ret := (some .boolean)) (by decide) rfl (Nat.le_of_ble_eq_true rfl) ?_
  intro p e s m args below meth c ls X hr hlocks hK hP hl
  obtain ⟨hx, hb, hml, hown, hts⟩ := id X
  have hS : va_S (ipA ad n) s.heap s.heap [] := va_S.rf
  have hl : lv_has ls 1 [(0, .int x)] := hl
  refine lv_iload_n hx hb dX13_isMark_0 rfl (lv_at hl 0 rfl) ?_
  refine lv_bipush (v := 59) hx hb dX13_isMark_1 (by decide) ?_
  refine lv_icmp_eq (tgt := 54) hx hb dX13_isMark_3 (by decide) (fun c_3 => ?_) (fun c_3 => ?_)
  · skip
    refine lv_iconst (v := 1) hx hb dX13_isMark_54 (by decide) ?_
    refine lv_goto (tgt := 59) hx hb dX13_isMark_55 (by decide) ?_
    exact q_zret X hr hlocks (rfl) (by rw [s_X13_isMark, if_pos c_3]) dX13_isMark_59
  · skip
    refine lv_iload_n hx hb dX13_isMark_6 rfl (lv_at hl 0 rfl) ?_
    refine lv_bipush (v := 40) hx hb dX13_isMark_7 (by decide) ?_
    refine lv_icmp_eq (tgt := 54) hx hb dX13_isMark_9 (by decide) (fun c_9 => ?_) (fun c_9 => ?_)
    · skip
      refine lv_iconst (v := 1) hx hb dX13_isMark_54 (by decide) ?_
      refine lv_goto (tgt := 59) hx hb dX13_isMark_55 (by decide) ?_
      exact q_zret X hr hlocks (rfl) (by rw [s_X13_isMark, if_neg c_3, if_pos c_9]) dX13_isMark_59
    · skip
      refine lv_iload_n hx hb dX13_isMark_12 rfl (lv_at hl 0 rfl) ?_
      refine lv_bipush (v := 41) hx hb dX13_isMark_13 (by decide) ?_
      refine lv_icmp_eq (tgt := 54) hx hb dX13_isMark_15 (by decide) (fun c_15 => ?_) (fun c_15 => ?_)
      · skip
        refine lv_iconst (v := 1) hx hb dX13_isMark_54 (by decide) ?_
        refine lv_goto (tgt := 59) hx hb dX13_isMark_55 (by decide) ?_
        exact q_zret X hr hlocks (rfl) (by rw [s_X13_isMark, if_neg c_3, if_neg c_9, if_pos c_15]) dX13_isMark_59
      · skip
        refine lv_iload_n hx hb dX13_isMark_18 rfl (lv_at hl 0 rfl) ?_
        refine lv_bipush (v := 43) hx hb dX13_isMark_19 (by decide) ?_
        refine lv_icmp_eq (tgt := 54) hx hb dX13_isMark_21 (by decide) (fun c_21 => ?_) (fun c_21 => ?_)
        · skip
          refine lv_iconst (v := 1) hx hb dX13_isMark_54 (by decide) ?_
          refine lv_goto (tgt := 59) hx hb dX13_isMark_55 (by decide) ?_
          exact q_zret X hr hlocks (rfl) (by rw [s_X13_isMark, if_neg c_3, if_neg c_9, if_neg c_15, if_pos c_21]) dX13_isMark_59
        · skip
          refine lv_iload_n hx hb dX13_isMark_24 rfl (lv_at hl 0 rfl) ?_
          refine lv_bipush (v := 45) hx hb dX13_isMark_25 (by decide) ?_
          refine lv_icmp_eq (tgt := 54) hx hb dX13_isMark_27 (by decide) (fun c_27 => ?_) (fun c_27 => ?_)
          · skip
            refine lv_iconst (v := 1) hx hb dX13_isMark_54 (by decide) ?_
            refine lv_goto (tgt := 59) hx hb dX13_isMark_55 (by decide) ?_
            exact q_zret X hr hlocks (rfl) (by rw [s_X13_isMark, if_neg c_3, if_neg c_9, if_neg c_15, if_neg c_21, if_pos c_27]) dX13_isMark_59
          · skip
            refine lv_iload_n hx hb dX13_isMark_30 rfl (lv_at hl 0 rfl) ?_
            refine lv_bipush (v := 42) hx hb dX13_isMark_31 (by decide) ?_
            refine lv_icmp_eq (tgt := 54) hx hb dX13_isMark_33 (by decide) (fun c_33 => ?_) (fun c_33 => ?_)
            · skip
              refine lv_iconst (v := 1) hx hb dX13_isMark_54 (by decide) ?_
              refine lv_goto (tgt := 59) hx hb dX13_isMark_55 (by decide) ?_
              exact q_zret X hr hlocks (rfl) (by rw [s_X13_isMark, if_neg c_3, if_neg c_9, if_neg c_15, if_neg c_21, if_neg c_27, if_pos c_33]) dX13_isMark_59
            · skip
              refine lv_iload_n hx hb dX13_isMark_36 rfl (lv_at hl 0 rfl) ?_
              refine lv_bipush (v := 47) hx hb dX13_isMark_37 (by decide) ?_
              refine lv_icmp_eq (tgt := 54) hx hb dX13_isMark_39 (by decide) (fun c_39 => ?_) (fun c_39 => ?_)
              · skip
                refine lv_iconst (v := 1) hx hb dX13_isMark_54 (by decide) ?_
                refine lv_goto (tgt := 59) hx hb dX13_isMark_55 (by decide) ?_
                exact q_zret X hr hlocks (rfl) (by rw [s_X13_isMark, if_neg c_3, if_neg c_9, if_neg c_15, if_neg c_21, if_neg c_27, if_neg c_33, if_pos c_39]) dX13_isMark_59
              · skip
                refine lv_iload_n hx hb dX13_isMark_42 rfl (lv_at hl 0 rfl) ?_
                refine lv_bipush (v := 60) hx hb dX13_isMark_43 (by decide) ?_
                refine lv_icmp_eq (tgt := 54) hx hb dX13_isMark_45 (by decide) (fun c_45 => ?_) (fun c_45 => ?_)
                · skip
                  refine lv_iconst (v := 1) hx hb dX13_isMark_54 (by decide) ?_
                  refine lv_goto (tgt := 59) hx hb dX13_isMark_55 (by decide) ?_
                  exact q_zret X hr hlocks (rfl) (by rw [s_X13_isMark, if_neg c_3, if_neg c_9, if_neg c_15, if_neg c_21, if_neg c_27, if_neg c_33, if_neg c_39, if_pos c_45]) dX13_isMark_59
                · skip
                  refine lv_iload_n hx hb dX13_isMark_48 rfl (lv_at hl 0 rfl) ?_
                  refine lv_bipush (v := 61) hx hb dX13_isMark_49 (by decide) ?_
                  refine lv_icmp_ne (tgt := 58) hx hb dX13_isMark_51 (by decide) (fun c_51 => ?_) (fun c_51 => ?_)
                  · skip
                    refine lv_iconst (v := 0) hx hb dX13_isMark_58 (by decide) ?_
                    exact q_zret X hr hlocks (rfl) (by rw [s_X13_isMark, if_neg c_3, if_neg c_9, if_neg c_15, if_neg c_21, if_neg c_27, if_neg c_33, if_neg c_39, if_neg c_45, if_neg c_51]) dX13_isMark_59
                  · skip
                    refine lv_iconst (v := 1) hx hb dX13_isMark_54 (by decide) ?_
                    refine lv_goto (tgt := 59) hx hb dX13_isMark_55 (by decide) ?_
                    exact q_zret X hr hlocks (rfl) (by rw [s_X13_isMark, if_neg c_3, if_neg c_9, if_neg c_15, if_neg c_21, if_neg c_27, if_neg c_33, if_neg c_39, if_neg c_45, if_pos c_51]) dX13_isMark_59
set_option maxRecDepth 20000 in
theorem fX13_sumAt_40 : FL wsX13_sumAt RX13 40 12 3 := ⟨RX13, TX13, 67, rfl, by decide +kernel, by decide, by decide +kernel⟩
set_option maxRecDepth 20000 in
theorem fX13_sumAt_84 : FL wsX13_sumAt RX13 84 12 18 := ⟨RX13, TX13, 67, rfl, by decide +kernel, by decide, by decide +kernel⟩
set_option maxRecDepth 20000 in
theorem fX13_sumAt_66 : FL wsX13_sumAt RX13 66 12 12 := ⟨RX13, TX13, 67, rfl, by decide +kernel, by decide, by decide +kernel⟩
set_option maxRecDepth 20000 in
theorem fX13_sumAt_75 : FL wsX13_sumAt RX13 75 12 15 := ⟨RX13, TX13, 67, rfl, by decide +kernel, by decide, by decide +kernel⟩
set_option maxRecDepth 20000 in
theorem fX13_sumAt_69 : FL wsX13_sumAt RX13 69 12 13 := ⟨RX13, TX13, 67, rfl, by decide +kernel, by decide, by decide +kernel⟩
set_option maxRecDepth 20000 in
theorem fX13_sumAt_81 : FL wsX13_sumAt RX13 81 12 17 := ⟨RX13, TX13, 67, rfl, by decide +kernel, by decide, by decide +kernel⟩
def s_X13_sumAt_5s (kindF : Nat → Int32) (heavyF : Nat → Int32) (wideF : Nat → Int32) (hotF : Nat → Int32) (placeF : Nat → Int32) (x : Int32) (y : Int32) (t5 : Nat) (x5_3 : Int32) : Int32 := if (placeF t5) = x then if (kindF t5) = 1 then if y = 0 then (x5_3 + 1) else if y = 1 then (x5_3 + (heavyF t5)) else if y = 2 then (x5_3 + (wideF t5)) else if y = 3 then (x5_3 + (hotF t5)) else if y = 4 then (x5_3 + 0) else (x5_3 + (1 <<< ((nI t5) &&& 31))) else if y = 0 then (x5_3 + 1) else if y = 1 then (x5_3 + (heavyF t5)) else if y = 2 then (x5_3 + (wideF t5)) else if y = 3 then (x5_3 + 0) else if y = 4 then (x5_3 + (wideF t5)) else (x5_3 + (1 <<< ((nI t5) &&& 31))) else x5_3
def s_X13_sumAt_5 (kindF : Nat → Int32) (heavyF : Nat → Int32) (wideF : Nat → Int32) (hotF : Nat → Int32) (placeF : Nat → Int32) (x : Int32) (y : Int32) (z0 : Int32) : Nat → Int32
  | 0 => z0
  | t + 1 => s_X13_sumAt_5s kindF heavyF wideF hotF placeF x y t (s_X13_sumAt_5 kindF heavyF wideF hotF placeF x y z0 t)
def s_X13_sumAt (nt : Nat) (kindF : Nat → Int32) (heavyF : Nat → Int32) (wideF : Nat → Int32) (hotF : Nat → Int32) (placeF : Nat → Int32) (x : Int32) (y : Int32) : Int32 := (s_X13_sumAt_5 kindF heavyF wideF hotF placeF x y 0 nt)
set_option maxHeartbeats 4000000 in
set_option maxRecDepth 100000 in
theorem c_X13_sumAt (l : Launch) (D : va_G) (cB cI cJ : ClassId) (ad : Nat → Nat) (n : Nat) (M : Nat → va_E) (mb : Nat) (nt : Nat) (nc : Nat) (np : Nat) (nq : Nat) (mv : Nat → Int32) (toldF : Nat → Int32) (kindF : Nat → Int32) (heavyF : Nat → Int32) (wideF : Nat → Int32) (hotF : Nat → Int32) (placeF : Nat → Int32) (x : Int32) (y : Int32) (h_mb : mb < n) (h_mb_3 : mb + 3 < n) (h_mb_12 : mb + 12 < n) (h_mb_13 : mb + 13 < n) (h_mb_15 : mb + 15 < n) (h_mb_17 : mb + 17 < n) (h_mb_18 : mb + 18 < n) (m_mb : M mb = .inr (12, modF ad mb mv)) (m_mb_3 : M (mb + 3) = .inl (cI, 14, .inl toldF)) (m_mb_12 : M (mb + 12) = .inl (cI, 24, .inl kindF)) (m_mb_13 : M (mb + 13) = .inl (cI, 24, .inl heavyF)) (m_mb_15 : M (mb + 15) = .inl (cI, 24, .inl wideF)) (m_mb_17 : M (mb + 17) = .inl (cI, 24, .inl hotF)) (m_mb_18 : M (mb + 18) = .inl (cI, 24, .inl placeF)) (k0 : toldF 0 = nI np) (hnp : np ≤ 4) (k1 : toldF 1 = nI nc) (hnc : nc ≤ 5) (k2 : toldF 2 = nI nt) (hnt : nt ≤ 12) (k3 : toldF 3 = nI nq) (hnq : nq ≤ 6) : cR l D cB cI cJ ad n M yX13_sumAt wsX13_sumAt 0 0 [.ref (ad mb), .int x, .int y] (s_X13_sumAt nt kindF heavyF wideF hotF placeF x y) := by
  refine q_body (cc := cX13_sumAt) (maxL := 6) (ret := (some .int)) (by decide) rfl (Nat.le_of_ble_eq_true rfl) ?_
  intro p e s m args below meth c ls X hr hlocks hK hP hl
  obtain ⟨hx, hb, hml, hown, hts⟩ := id X
  have hS : va_S (ipA ad n) s.heap s.heap [] := va_S.rf
  have hl : lv_has ls 6 [(0, .ref (ad mb)), (1, .int x), (2, .int y)] := hl
  refine lv_iconst (v := 0) hx hb dX13_sumAt_0 (by decide) ?_
  refine lv_istore_n (lv' := [(3, .int 0), (0, .ref (ad mb)), (1, .int x), (2, .int y)]) hx hb dX13_sumAt_1 rfl hl (by decide) rfl (fun ls hl => ?_)
  refine lv_iconst (v := 0) hx hb dX13_sumAt_2 (by decide) ?_
  refine lv_istore (lv' := [(4, .int 0), (3, .int 0), (0, .ref (ad mb)), (1, .int x), (2, .int y)]) hx hb dX13_sumAt_3 hl (by decide) rfl (fun ls hl => ?_)
  have loop_5 : ∀ (fuel : Nat) (t5 : Nat) (x5_3 : Int32), nt - (t5) < fuel → t5 ≤ nt → x5_3 = (s_X13_sumAt_5 kindF heavyF wideF hotF placeF x y 0 t5) → ∀ (ls : Array Slot), lv_has ls 6 [(4, .int (nI t5)), (3, .int x5_3), (0, .ref (ad mb)), (1, .int x), (2, .int y)] → W p l e (rmOf 0 0) s m args below meth c s.heap [] 0 0 (MQ below (vp_Si (fun r9 => r9 = s_X13_sumAt nt kindF heavyF wideF hotF placeF x y)) args s 0 0 (fun _ => False)) (F0 m 5 ls []) := by
    intro fuel
    induction fuel with
    | zero =>
      intro t5 x5_3 hz
      exact absurd hz (Nat.not_lt_zero _)
    | succ fuel ih_5 =>
      intro t5 x5_3 hz_5 h_t5 e_x5_3 ls hl
      skip
      refine lv_iload hx hb dX13_sumAt_5 (lv_at hl 0 rfl) ?_
      refine lv_aload_n hx hb dX13_sumAt_7 rfl (lv_at hl 2 rfl) ?_
      refine q_get (v := .ref (ad (mb + 3))) (fs := modF ad mb mv) X hK hP fX13_sumAt_40 h_mb m_mb rfl dX13_sumAt_8 ?_
      refine lv_iconst (v := 2) hx hb dX13_sumAt_11 (by decide) ?_
      refine q_ialdN (f := toldF) (k := 14) X hK hP 2 h_mb_3 m_mb_3 (by decide) (by decide) dX13_sumAt_12 ?_
      refine lv_icmp_ge (tgt := 147) hx hb dX13_sumAt_13 (by decide) (fun c_13 => ?_) (fun c_13 => ?_)
      · rw [k2] at c_13
        have h9_5 : t5 = nt := eq_of_le (t := t5) (k := nt) c_13 (by omega) h_t5
        subst t5
        subst e_x5_3
        refine lv_iload_n hx hb dX13_sumAt_147 rfl (lv_at hl 1 rfl) ?_
        exact q_iret hb hx hr hlocks (by rfl) dX13_sumAt_148
      · rw [k2] at c_13
        have h9_5 : t5 < nt := lt_of_nlt (t := t5) (k := nt) c_13 (by omega) h_t5
        refine lv_aload_n hx hb dX13_sumAt_16 rfl (lv_at hl 2 rfl) ?_
        refine q_get (v := .ref (ad (mb + 18))) (fs := modF ad mb mv) X hK hP fX13_sumAt_84 h_mb m_mb rfl dX13_sumAt_17 ?_
        refine lv_iload hx hb dX13_sumAt_20 (lv_at hl 0 rfl) ?_
        refine q_ialdN (f := placeF) (k := 24) X hK hP t5 h_mb_18 m_mb_18 (by omega) (by decide) dX13_sumAt_22 ?_
        refine lv_iload_n hx hb dX13_sumAt_23 rfl (lv_at hl 3 rfl) ?_
        refine lv_icmp_eq (tgt := 30) hx hb dX13_sumAt_24 (by decide) (fun c_24 => ?_) (fun c_24 => ?_)
        · skip
          refine lv_aload_n hx hb dX13_sumAt_30 rfl (lv_at hl 2 rfl) ?_
          refine q_get (v := .ref (ad (mb + 12))) (fs := modF ad mb mv) X hK hP fX13_sumAt_66 h_mb m_mb rfl dX13_sumAt_31 ?_
          refine lv_iload hx hb dX13_sumAt_34 (lv_at hl 0 rfl) ?_
          refine q_ialdN (f := kindF) (k := 24) X hK hP t5 h_mb_12 m_mb_12 (by omega) (by decide) dX13_sumAt_36 ?_
          refine lv_iconst (v := 1) hx hb dX13_sumAt_37 (by decide) ?_
          refine lv_icmp_ne (tgt := 45) hx hb dX13_sumAt_38 (by decide) (fun c_38 => ?_) (fun c_38 => ?_)
          · skip
            refine lv_iconst (v := 0) hx hb dX13_sumAt_45 (by decide) ?_
            refine lv_istore (lv' := [(5, .int 0), (4, .int (nI t5)), (3, .int x5_3), (0, .ref (ad mb)), (1, .int x), (2, .int y)]) hx hb dX13_sumAt_46 hl (by decide) rfl (fun ls hl => ?_)
            refine lv_iload_n hx hb dX13_sumAt_48 rfl (lv_at hl 2 rfl) ?_
            refine lv_iload_n hx hb dX13_sumAt_49 rfl (lv_at hl 5 rfl) ?_
            refine lv_if_ne (tgt := 57) hx hb dX13_sumAt_50 (by decide) (fun c_50 => ?_) (fun c_50 => ?_)
            · skip
              refine lv_iload_n hx hb dX13_sumAt_57 rfl (lv_at hl 5 rfl) ?_
              refine lv_iconst (v := 1) hx hb dX13_sumAt_58 (by decide) ?_
              refine lv_icmp_ne (tgt := 72) hx hb dX13_sumAt_59 (by decide) (fun c_59 => ?_) (fun c_59 => ?_)
              · skip
                refine lv_iload_n hx hb dX13_sumAt_72 rfl (lv_at hl 5 rfl) ?_
                refine lv_iconst (v := 2) hx hb dX13_sumAt_73 (by decide) ?_
                refine lv_icmp_ne (tgt := 87) hx hb dX13_sumAt_74 (by decide) (fun c_74 => ?_) (fun c_74 => ?_)
                · skip
                  refine lv_iload_n hx hb dX13_sumAt_87 rfl (lv_at hl 5 rfl) ?_
                  refine lv_iconst (v := 3) hx hb dX13_sumAt_88 (by decide) ?_
                  refine lv_icmp_ne (tgt := 111) hx hb dX13_sumAt_89 (by decide) (fun c_89 => ?_) (fun c_89 => ?_)
                  · skip
                    refine lv_iload_n hx hb dX13_sumAt_111 rfl (lv_at hl 5 rfl) ?_
                    refine lv_iconst (v := 4) hx hb dX13_sumAt_112 (by decide) ?_
                    refine lv_icmp_ne (tgt := 135) hx hb dX13_sumAt_113 (by decide) (fun c_113 => ?_) (fun c_113 => ?_)
                    · skip
                      refine lv_iconst (v := 1) hx hb dX13_sumAt_135 (by decide) ?_
                      refine lv_iload hx hb dX13_sumAt_136 (lv_at hl 1 rfl) ?_
                      refine lv_ishl hx hb dX13_sumAt_138 ?_
                      refine lv_iadd hx hb dX13_sumAt_139 ?_
                      refine lv_istore_n (lv' := [(3, .int (x5_3 + (1 <<< ((nI t5) &&& 31)))), (5, .int 0), (4, .int (nI t5)), (0, .ref (ad mb)), (1, .int x), (2, .int y)]) hx hb dX13_sumAt_140 rfl hl (by decide) rfl (fun ls hl => ?_)
                      refine lv_iinc (v := ((nI t5) + 1)) (lv' := [(4, .int ((nI t5) + 1)), (3, .int (x5_3 + (1 <<< ((nI t5) &&& 31)))), (5, .int 0), (0, .ref (ad mb)), (1, .int x), (2, .int y)]) hx hb dX13_sumAt_141 hl (k := 2) rfl rfl (by decide) rfl (fun ls hl => ?_)
                      refine lv_goto (tgt := 5) hx hb dX13_sumAt_144 (by decide) ?_
                      exact ih_5 (t5 + 1) (x5_3 + (1 <<< ((nI t5) &&& 31))) (by omega) (by omega) (by rw [s_X13_sumAt_5, ← e_x5_3, s_X13_sumAt_5s, if_pos c_24, if_neg c_38, if_neg c_50, if_neg c_59, if_neg c_74, if_neg c_89, if_neg c_113]) ls (by rw [(show nI (t5 + 1) = nI t5 + 1 by exact nI_succ _)]; exact lv_sub hl [0, 1, 3, 4, 5] rfl)
                    · skip
                      refine lv_iload hx hb dX13_sumAt_116 (lv_at hl 0 rfl) ?_
                      refine lv_if_eq (tgt := 125) hx hb dX13_sumAt_118 (by decide) (fun c_118 => ?_) (fun c_118 => ?_)
                      · clear c_118
                        refine lv_aload_n hx hb dX13_sumAt_125 rfl (lv_at hl 3 rfl) ?_
                        refine q_get (v := .ref (ad (mb + 15))) (fs := modF ad mb mv) X hK hP fX13_sumAt_75 h_mb m_mb rfl dX13_sumAt_126 ?_
                        refine lv_iload hx hb dX13_sumAt_129 (lv_at hl 1 rfl) ?_
                        refine q_ialdN (f := wideF) (k := 24) X hK hP t5 h_mb_15 m_mb_15 (by omega) (by decide) dX13_sumAt_131 ?_
                        refine lv_goto (tgt := 139) hx hb dX13_sumAt_132 (by decide) ?_
                        refine lv_iadd hx hb dX13_sumAt_139 ?_
                        refine lv_istore_n (lv' := [(3, .int (x5_3 + (wideF t5))), (5, .int 0), (4, .int (nI t5)), (0, .ref (ad mb)), (1, .int x), (2, .int y)]) hx hb dX13_sumAt_140 rfl hl (by decide) rfl (fun ls hl => ?_)
                        refine lv_iinc (v := ((nI t5) + 1)) (lv' := [(4, .int ((nI t5) + 1)), (3, .int (x5_3 + (wideF t5))), (5, .int 0), (0, .ref (ad mb)), (1, .int x), (2, .int y)]) hx hb dX13_sumAt_141 hl (k := 2) rfl rfl (by decide) rfl (fun ls hl => ?_)
                        refine lv_goto (tgt := 5) hx hb dX13_sumAt_144 (by decide) ?_
                        exact ih_5 (t5 + 1) (x5_3 + (wideF t5)) (by omega) (by omega) (by rw [s_X13_sumAt_5, ← e_x5_3, s_X13_sumAt_5s, if_pos c_24, if_neg c_38, if_neg c_50, if_neg c_59, if_neg c_74, if_neg c_89, if_pos c_113]) ls (by rw [(show nI (t5 + 1) = nI t5 + 1 by exact nI_succ _)]; exact lv_sub hl [0, 1, 3, 4, 5] rfl)
                      · exact absurd c_118 (by decide)
                  · skip
                    refine lv_iload hx hb dX13_sumAt_92 (lv_at hl 0 rfl) ?_
                    refine lv_if_eq (tgt := 107) hx hb dX13_sumAt_94 (by decide) (fun c_94 => ?_) (fun c_94 => ?_)
                    · clear c_94
                      refine lv_iconst (v := 0) hx hb dX13_sumAt_107 (by decide) ?_
                      refine lv_goto (tgt := 139) hx hb dX13_sumAt_108 (by decide) ?_
                      refine lv_iadd hx hb dX13_sumAt_139 ?_
                      refine lv_istore_n (lv' := [(3, .int (x5_3 + 0)), (5, .int 0), (4, .int (nI t5)), (0, .ref (ad mb)), (1, .int x), (2, .int y)]) hx hb dX13_sumAt_140 rfl hl (by decide) rfl (fun ls hl => ?_)
                      refine lv_iinc (v := ((nI t5) + 1)) (lv' := [(4, .int ((nI t5) + 1)), (3, .int (x5_3 + 0)), (5, .int 0), (0, .ref (ad mb)), (1, .int x), (2, .int y)]) hx hb dX13_sumAt_141 hl (k := 2) rfl rfl (by decide) rfl (fun ls hl => ?_)
                      refine lv_goto (tgt := 5) hx hb dX13_sumAt_144 (by decide) ?_
                      exact ih_5 (t5 + 1) (x5_3 + 0) (by omega) (by omega) (by rw [s_X13_sumAt_5, ← e_x5_3, s_X13_sumAt_5s, if_pos c_24, if_neg c_38, if_neg c_50, if_neg c_59, if_neg c_74, if_pos c_89]) ls (by rw [(show nI (t5 + 1) = nI t5 + 1 by exact nI_succ _)]; exact lv_sub hl [0, 1, 3, 4, 5] rfl)
                    · exact absurd c_94 (by decide)
                · skip
                  refine lv_aload_n hx hb dX13_sumAt_77 rfl (lv_at hl 3 rfl) ?_
                  refine q_get (v := .ref (ad (mb + 15))) (fs := modF ad mb mv) X hK hP fX13_sumAt_75 h_mb m_mb rfl dX13_sumAt_78 ?_
                  refine lv_iload hx hb dX13_sumAt_81 (lv_at hl 1 rfl) ?_
                  refine q_ialdN (f := wideF) (k := 24) X hK hP t5 h_mb_15 m_mb_15 (by omega) (by decide) dX13_sumAt_83 ?_
                  refine lv_goto (tgt := 139) hx hb dX13_sumAt_84 (by decide) ?_
                  refine lv_iadd hx hb dX13_sumAt_139 ?_
                  refine lv_istore_n (lv' := [(3, .int (x5_3 + (wideF t5))), (5, .int 0), (4, .int (nI t5)), (0, .ref (ad mb)), (1, .int x), (2, .int y)]) hx hb dX13_sumAt_140 rfl hl (by decide) rfl (fun ls hl => ?_)
                  refine lv_iinc (v := ((nI t5) + 1)) (lv' := [(4, .int ((nI t5) + 1)), (3, .int (x5_3 + (wideF t5))), (5, .int 0), (0, .ref (ad mb)), (1, .int x), (2, .int y)]) hx hb dX13_sumAt_141 hl (k := 2) rfl rfl (by decide) rfl (fun ls hl => ?_)
                  refine lv_goto (tgt := 5) hx hb dX13_sumAt_144 (by decide) ?_
                  exact ih_5 (t5 + 1) (x5_3 + (wideF t5)) (by omega) (by omega) (by rw [s_X13_sumAt_5, ← e_x5_3, s_X13_sumAt_5s, if_pos c_24, if_neg c_38, if_neg c_50, if_neg c_59, if_pos c_74]) ls (by rw [(show nI (t5 + 1) = nI t5 + 1 by exact nI_succ _)]; exact lv_sub hl [0, 1, 3, 4, 5] rfl)
              · skip
                refine lv_aload_n hx hb dX13_sumAt_62 rfl (lv_at hl 3 rfl) ?_
                refine q_get (v := .ref (ad (mb + 13))) (fs := modF ad mb mv) X hK hP fX13_sumAt_69 h_mb m_mb rfl dX13_sumAt_63 ?_
                refine lv_iload hx hb dX13_sumAt_66 (lv_at hl 1 rfl) ?_
                refine q_ialdN (f := heavyF) (k := 24) X hK hP t5 h_mb_13 m_mb_13 (by omega) (by decide) dX13_sumAt_68 ?_
                refine lv_goto (tgt := 139) hx hb dX13_sumAt_69 (by decide) ?_
                refine lv_iadd hx hb dX13_sumAt_139 ?_
                refine lv_istore_n (lv' := [(3, .int (x5_3 + (heavyF t5))), (5, .int 0), (4, .int (nI t5)), (0, .ref (ad mb)), (1, .int x), (2, .int y)]) hx hb dX13_sumAt_140 rfl hl (by decide) rfl (fun ls hl => ?_)
                refine lv_iinc (v := ((nI t5) + 1)) (lv' := [(4, .int ((nI t5) + 1)), (3, .int (x5_3 + (heavyF t5))), (5, .int 0), (0, .ref (ad mb)), (1, .int x), (2, .int y)]) hx hb dX13_sumAt_141 hl (k := 2) rfl rfl (by decide) rfl (fun ls hl => ?_)
                refine lv_goto (tgt := 5) hx hb dX13_sumAt_144 (by decide) ?_
                exact ih_5 (t5 + 1) (x5_3 + (heavyF t5)) (by omega) (by omega) (by rw [s_X13_sumAt_5, ← e_x5_3, s_X13_sumAt_5s, if_pos c_24, if_neg c_38, if_neg c_50, if_pos c_59]) ls (by rw [(show nI (t5 + 1) = nI t5 + 1 by exact nI_succ _)]; exact lv_sub hl [0, 1, 3, 4, 5] rfl)
            · skip
              refine lv_iconst (v := 1) hx hb dX13_sumAt_53 (by decide) ?_
              refine lv_goto (tgt := 139) hx hb dX13_sumAt_54 (by decide) ?_
              refine lv_iadd hx hb dX13_sumAt_139 ?_
              refine lv_istore_n (lv' := [(3, .int (x5_3 + 1)), (5, .int 0), (4, .int (nI t5)), (0, .ref (ad mb)), (1, .int x), (2, .int y)]) hx hb dX13_sumAt_140 rfl hl (by decide) rfl (fun ls hl => ?_)
              refine lv_iinc (v := ((nI t5) + 1)) (lv' := [(4, .int ((nI t5) + 1)), (3, .int (x5_3 + 1)), (5, .int 0), (0, .ref (ad mb)), (1, .int x), (2, .int y)]) hx hb dX13_sumAt_141 hl (k := 2) rfl rfl (by decide) rfl (fun ls hl => ?_)
              refine lv_goto (tgt := 5) hx hb dX13_sumAt_144 (by decide) ?_
              exact ih_5 (t5 + 1) (x5_3 + 1) (by omega) (by omega) (by rw [s_X13_sumAt_5, ← e_x5_3, s_X13_sumAt_5s, if_pos c_24, if_neg c_38, if_pos c_50]) ls (by rw [(show nI (t5 + 1) = nI t5 + 1 by exact nI_succ _)]; exact lv_sub hl [0, 1, 3, 4, 5] rfl)
          · skip
            refine lv_iconst (v := 1) hx hb dX13_sumAt_41 (by decide) ?_
            refine lv_goto (tgt := 46) hx hb dX13_sumAt_42 (by decide) ?_
            refine lv_istore (lv' := [(5, .int 1), (4, .int (nI t5)), (3, .int x5_3), (0, .ref (ad mb)), (1, .int x), (2, .int y)]) hx hb dX13_sumAt_46 hl (by decide) rfl (fun ls hl => ?_)
            refine lv_iload_n hx hb dX13_sumAt_48 rfl (lv_at hl 2 rfl) ?_
            refine lv_iload_n hx hb dX13_sumAt_49 rfl (lv_at hl 5 rfl) ?_
            refine lv_if_ne (tgt := 57) hx hb dX13_sumAt_50 (by decide) (fun c_50 => ?_) (fun c_50 => ?_)
            · skip
              refine lv_iload_n hx hb dX13_sumAt_57 rfl (lv_at hl 5 rfl) ?_
              refine lv_iconst (v := 1) hx hb dX13_sumAt_58 (by decide) ?_
              refine lv_icmp_ne (tgt := 72) hx hb dX13_sumAt_59 (by decide) (fun c_59 => ?_) (fun c_59 => ?_)
              · skip
                refine lv_iload_n hx hb dX13_sumAt_72 rfl (lv_at hl 5 rfl) ?_
                refine lv_iconst (v := 2) hx hb dX13_sumAt_73 (by decide) ?_
                refine lv_icmp_ne (tgt := 87) hx hb dX13_sumAt_74 (by decide) (fun c_74 => ?_) (fun c_74 => ?_)
                · skip
                  refine lv_iload_n hx hb dX13_sumAt_87 rfl (lv_at hl 5 rfl) ?_
                  refine lv_iconst (v := 3) hx hb dX13_sumAt_88 (by decide) ?_
                  refine lv_icmp_ne (tgt := 111) hx hb dX13_sumAt_89 (by decide) (fun c_89 => ?_) (fun c_89 => ?_)
                  · skip
                    refine lv_iload_n hx hb dX13_sumAt_111 rfl (lv_at hl 5 rfl) ?_
                    refine lv_iconst (v := 4) hx hb dX13_sumAt_112 (by decide) ?_
                    refine lv_icmp_ne (tgt := 135) hx hb dX13_sumAt_113 (by decide) (fun c_113 => ?_) (fun c_113 => ?_)
                    · skip
                      refine lv_iconst (v := 1) hx hb dX13_sumAt_135 (by decide) ?_
                      refine lv_iload hx hb dX13_sumAt_136 (lv_at hl 1 rfl) ?_
                      refine lv_ishl hx hb dX13_sumAt_138 ?_
                      refine lv_iadd hx hb dX13_sumAt_139 ?_
                      refine lv_istore_n (lv' := [(3, .int (x5_3 + (1 <<< ((nI t5) &&& 31)))), (5, .int 1), (4, .int (nI t5)), (0, .ref (ad mb)), (1, .int x), (2, .int y)]) hx hb dX13_sumAt_140 rfl hl (by decide) rfl (fun ls hl => ?_)
                      refine lv_iinc (v := ((nI t5) + 1)) (lv' := [(4, .int ((nI t5) + 1)), (3, .int (x5_3 + (1 <<< ((nI t5) &&& 31)))), (5, .int 1), (0, .ref (ad mb)), (1, .int x), (2, .int y)]) hx hb dX13_sumAt_141 hl (k := 2) rfl rfl (by decide) rfl (fun ls hl => ?_)
                      refine lv_goto (tgt := 5) hx hb dX13_sumAt_144 (by decide) ?_
                      exact ih_5 (t5 + 1) (x5_3 + (1 <<< ((nI t5) &&& 31))) (by omega) (by omega) (by rw [s_X13_sumAt_5, ← e_x5_3, s_X13_sumAt_5s, if_pos c_24, if_pos c_38, if_neg c_50, if_neg c_59, if_neg c_74, if_neg c_89, if_neg c_113]) ls (by rw [(show nI (t5 + 1) = nI t5 + 1 by exact nI_succ _)]; exact lv_sub hl [0, 1, 3, 4, 5] rfl)
                    · skip
                      refine lv_iload hx hb dX13_sumAt_116 (lv_at hl 0 rfl) ?_
                      refine lv_if_eq (tgt := 125) hx hb dX13_sumAt_118 (by decide) (fun c_118 => ?_) (fun c_118 => ?_)
                      · exact absurd c_118 (by decide)
                      · clear c_118
                        refine lv_iconst (v := 0) hx hb dX13_sumAt_121 (by decide) ?_
                        refine lv_goto (tgt := 139) hx hb dX13_sumAt_122 (by decide) ?_
                        refine lv_iadd hx hb dX13_sumAt_139 ?_
                        refine lv_istore_n (lv' := [(3, .int (x5_3 + 0)), (5, .int 1), (4, .int (nI t5)), (0, .ref (ad mb)), (1, .int x), (2, .int y)]) hx hb dX13_sumAt_140 rfl hl (by decide) rfl (fun ls hl => ?_)
                        refine lv_iinc (v := ((nI t5) + 1)) (lv' := [(4, .int ((nI t5) + 1)), (3, .int (x5_3 + 0)), (5, .int 1), (0, .ref (ad mb)), (1, .int x), (2, .int y)]) hx hb dX13_sumAt_141 hl (k := 2) rfl rfl (by decide) rfl (fun ls hl => ?_)
                        refine lv_goto (tgt := 5) hx hb dX13_sumAt_144 (by decide) ?_
                        exact ih_5 (t5 + 1) (x5_3 + 0) (by omega) (by omega) (by rw [s_X13_sumAt_5, ← e_x5_3, s_X13_sumAt_5s, if_pos c_24, if_pos c_38, if_neg c_50, if_neg c_59, if_neg c_74, if_neg c_89, if_pos c_113]) ls (by rw [(show nI (t5 + 1) = nI t5 + 1 by exact nI_succ _)]; exact lv_sub hl [0, 1, 3, 4, 5] rfl)
                  · skip
                    refine lv_iload hx hb dX13_sumAt_92 (lv_at hl 0 rfl) ?_
                    refine lv_if_eq (tgt := 107) hx hb dX13_sumAt_94 (by decide) (fun c_94 => ?_) (fun c_94 => ?_)
                    · exact absurd c_94 (by decide)
                    · clear c_94
                      refine lv_aload_n hx hb dX13_sumAt_97 rfl (lv_at hl 3 rfl) ?_
                      refine q_get (v := .ref (ad (mb + 17))) (fs := modF ad mb mv) X hK hP fX13_sumAt_81 h_mb m_mb rfl dX13_sumAt_98 ?_
                      refine lv_iload hx hb dX13_sumAt_101 (lv_at hl 1 rfl) ?_
                      refine q_ialdN (f := hotF) (k := 24) X hK hP t5 h_mb_17 m_mb_17 (by omega) (by decide) dX13_sumAt_103 ?_
                      refine lv_goto (tgt := 139) hx hb dX13_sumAt_104 (by decide) ?_
                      refine lv_iadd hx hb dX13_sumAt_139 ?_
                      refine lv_istore_n (lv' := [(3, .int (x5_3 + (hotF t5))), (5, .int 1), (4, .int (nI t5)), (0, .ref (ad mb)), (1, .int x), (2, .int y)]) hx hb dX13_sumAt_140 rfl hl (by decide) rfl (fun ls hl => ?_)
                      refine lv_iinc (v := ((nI t5) + 1)) (lv' := [(4, .int ((nI t5) + 1)), (3, .int (x5_3 + (hotF t5))), (5, .int 1), (0, .ref (ad mb)), (1, .int x), (2, .int y)]) hx hb dX13_sumAt_141 hl (k := 2) rfl rfl (by decide) rfl (fun ls hl => ?_)
                      refine lv_goto (tgt := 5) hx hb dX13_sumAt_144 (by decide) ?_
                      exact ih_5 (t5 + 1) (x5_3 + (hotF t5)) (by omega) (by omega) (by rw [s_X13_sumAt_5, ← e_x5_3, s_X13_sumAt_5s, if_pos c_24, if_pos c_38, if_neg c_50, if_neg c_59, if_neg c_74, if_pos c_89]) ls (by rw [(show nI (t5 + 1) = nI t5 + 1 by exact nI_succ _)]; exact lv_sub hl [0, 1, 3, 4, 5] rfl)
                · skip
                  refine lv_aload_n hx hb dX13_sumAt_77 rfl (lv_at hl 3 rfl) ?_
                  refine q_get (v := .ref (ad (mb + 15))) (fs := modF ad mb mv) X hK hP fX13_sumAt_75 h_mb m_mb rfl dX13_sumAt_78 ?_
                  refine lv_iload hx hb dX13_sumAt_81 (lv_at hl 1 rfl) ?_
                  refine q_ialdN (f := wideF) (k := 24) X hK hP t5 h_mb_15 m_mb_15 (by omega) (by decide) dX13_sumAt_83 ?_
                  refine lv_goto (tgt := 139) hx hb dX13_sumAt_84 (by decide) ?_
                  refine lv_iadd hx hb dX13_sumAt_139 ?_
                  refine lv_istore_n (lv' := [(3, .int (x5_3 + (wideF t5))), (5, .int 1), (4, .int (nI t5)), (0, .ref (ad mb)), (1, .int x), (2, .int y)]) hx hb dX13_sumAt_140 rfl hl (by decide) rfl (fun ls hl => ?_)
                  refine lv_iinc (v := ((nI t5) + 1)) (lv' := [(4, .int ((nI t5) + 1)), (3, .int (x5_3 + (wideF t5))), (5, .int 1), (0, .ref (ad mb)), (1, .int x), (2, .int y)]) hx hb dX13_sumAt_141 hl (k := 2) rfl rfl (by decide) rfl (fun ls hl => ?_)
                  refine lv_goto (tgt := 5) hx hb dX13_sumAt_144 (by decide) ?_
                  exact ih_5 (t5 + 1) (x5_3 + (wideF t5)) (by omega) (by omega) (by rw [s_X13_sumAt_5, ← e_x5_3, s_X13_sumAt_5s, if_pos c_24, if_pos c_38, if_neg c_50, if_neg c_59, if_pos c_74]) ls (by rw [(show nI (t5 + 1) = nI t5 + 1 by exact nI_succ _)]; exact lv_sub hl [0, 1, 3, 4, 5] rfl)
              · skip
                refine lv_aload_n hx hb dX13_sumAt_62 rfl (lv_at hl 3 rfl) ?_
                refine q_get (v := .ref (ad (mb + 13))) (fs := modF ad mb mv) X hK hP fX13_sumAt_69 h_mb m_mb rfl dX13_sumAt_63 ?_
                refine lv_iload hx hb dX13_sumAt_66 (lv_at hl 1 rfl) ?_
                refine q_ialdN (f := heavyF) (k := 24) X hK hP t5 h_mb_13 m_mb_13 (by omega) (by decide) dX13_sumAt_68 ?_
                refine lv_goto (tgt := 139) hx hb dX13_sumAt_69 (by decide) ?_
                refine lv_iadd hx hb dX13_sumAt_139 ?_
                refine lv_istore_n (lv' := [(3, .int (x5_3 + (heavyF t5))), (5, .int 1), (4, .int (nI t5)), (0, .ref (ad mb)), (1, .int x), (2, .int y)]) hx hb dX13_sumAt_140 rfl hl (by decide) rfl (fun ls hl => ?_)
                refine lv_iinc (v := ((nI t5) + 1)) (lv' := [(4, .int ((nI t5) + 1)), (3, .int (x5_3 + (heavyF t5))), (5, .int 1), (0, .ref (ad mb)), (1, .int x), (2, .int y)]) hx hb dX13_sumAt_141 hl (k := 2) rfl rfl (by decide) rfl (fun ls hl => ?_)
                refine lv_goto (tgt := 5) hx hb dX13_sumAt_144 (by decide) ?_
                exact ih_5 (t5 + 1) (x5_3 + (heavyF t5)) (by omega) (by omega) (by rw [s_X13_sumAt_5, ← e_x5_3, s_X13_sumAt_5s, if_pos c_24, if_pos c_38, if_neg c_50, if_pos c_59]) ls (by rw [(show nI (t5 + 1) = nI t5 + 1 by exact nI_succ _)]; exact lv_sub hl [0, 1, 3, 4, 5] rfl)
            · skip
              refine lv_iconst (v := 1) hx hb dX13_sumAt_53 (by decide) ?_
              refine lv_goto (tgt := 139) hx hb dX13_sumAt_54 (by decide) ?_
              refine lv_iadd hx hb dX13_sumAt_139 ?_
              refine lv_istore_n (lv' := [(3, .int (x5_3 + 1)), (5, .int 1), (4, .int (nI t5)), (0, .ref (ad mb)), (1, .int x), (2, .int y)]) hx hb dX13_sumAt_140 rfl hl (by decide) rfl (fun ls hl => ?_)
              refine lv_iinc (v := ((nI t5) + 1)) (lv' := [(4, .int ((nI t5) + 1)), (3, .int (x5_3 + 1)), (5, .int 1), (0, .ref (ad mb)), (1, .int x), (2, .int y)]) hx hb dX13_sumAt_141 hl (k := 2) rfl rfl (by decide) rfl (fun ls hl => ?_)
              refine lv_goto (tgt := 5) hx hb dX13_sumAt_144 (by decide) ?_
              exact ih_5 (t5 + 1) (x5_3 + 1) (by omega) (by omega) (by rw [s_X13_sumAt_5, ← e_x5_3, s_X13_sumAt_5s, if_pos c_24, if_pos c_38, if_pos c_50]) ls (by rw [(show nI (t5 + 1) = nI t5 + 1 by exact nI_succ _)]; exact lv_sub hl [0, 1, 3, 4, 5] rfl)
        · skip
          refine lv_goto (tgt := 141) hx hb dX13_sumAt_27 (by decide) ?_
          refine lv_iinc (v := ((nI t5) + 1)) (lv' := [(4, .int ((nI t5) + 1)), (3, .int x5_3), (0, .ref (ad mb)), (1, .int x), (2, .int y)]) hx hb dX13_sumAt_141 hl (k := 0) rfl rfl (by decide) rfl (fun ls hl => ?_)
          refine lv_goto (tgt := 5) hx hb dX13_sumAt_144 (by decide) ?_
          exact ih_5 (t5 + 1) x5_3 (by omega) (by omega) (by rw [s_X13_sumAt_5, ← e_x5_3, s_X13_sumAt_5s, if_neg c_24]) ls (by rw [(show nI (t5 + 1) = nI t5 + 1 by exact nI_succ _)]; exact lv_sub hl [0, 1, 2, 3, 4] rfl)
  exact loop_5 (nt + 1) 0 0 (by omega) (by omega) (by rfl) ls (lv_sub hl [0, 1, 2, 3, 4] rfl)
set_option maxRecDepth 20000 in
theorem fX13_priceOf_40 : FL wsX13_priceOf RX13 40 12 3 := ⟨RX13, TX13, 67, rfl, by decide +kernel, by decide, by decide +kernel⟩
set_option maxRecDepth 20000 in
theorem fX13_priceOf_69 : FL wsX13_priceOf RX13 69 12 13 := ⟨RX13, TX13, 67, rfl, by decide +kernel, by decide, by decide +kernel⟩
set_option maxRecDepth 20000 in
theorem fX13_priceOf_87 : FL wsX13_priceOf RX13 87 12 19 := ⟨RX13, TX13, 67, rfl, by decide +kernel, by decide, by decide +kernel⟩
set_option maxRecDepth 20000 in
theorem fX13_priceOf_90 : FL wsX13_priceOf RX13 90 12 20 := ⟨RX13, TX13, 67, rfl, by decide +kernel, by decide, by decide +kernel⟩
def s_X13_priceOf_2 (heavyF : Nat → Int32) (postToF : Nat → Int32) (priceF : Nat → Int32) (x : Int32) : Nat → Nat → Int32
  | 0, _ => (-1)
  | r + 1, t2 => if (postToF t2) < (heavyF x.toNatClampNeg) then s_X13_priceOf_2 heavyF postToF priceF x r (t2 + 1) else (priceF t2)
def s_X13_priceOf (nq : Nat) (heavyF : Nat → Int32) (postToF : Nat → Int32) (priceF : Nat → Int32) (x : Int32) : Int32 := (s_X13_priceOf_2 heavyF postToF priceF x nq 0)
set_option maxHeartbeats 4000000 in
set_option maxRecDepth 100000 in
theorem c_X13_priceOf (l : Launch) (D : va_G) (cB cI cJ : ClassId) (ad : Nat → Nat) (n : Nat) (M : Nat → va_E) (mb : Nat) (nt : Nat) (nc : Nat) (np : Nat) (nq : Nat) (mv : Nat → Int32) (toldF : Nat → Int32) (heavyF : Nat → Int32) (postToF : Nat → Int32) (priceF : Nat → Int32) (x : Int32) (h_mb : mb < n) (h_mb_3 : mb + 3 < n) (h_mb_13 : mb + 13 < n) (h_mb_19 : mb + 19 < n) (h_mb_20 : mb + 20 < n) (m_mb : M mb = .inr (12, modF ad mb mv)) (m_mb_3 : M (mb + 3) = .inl (cI, 14, .inl toldF)) (m_mb_13 : M (mb + 13) = .inl (cI, 24, .inl heavyF)) (m_mb_19 : M (mb + 19) = .inl (cI, 12, .inl postToF)) (m_mb_20 : M (mb + 20) = .inl (cI, 12, .inl priceF)) (k0 : toldF 0 = nI np) (hnp : np ≤ 4) (k1 : toldF 1 = nI nc) (hnc : nc ≤ 5) (k2 : toldF 2 = nI nt) (hnt : nt ≤ 12) (k3 : toldF 3 = nI nq) (hnq : nq ≤ 6) (vx : vp_in x 24) : cR l D cB cI cJ ad n M yX13_priceOf wsX13_priceOf 0 0 [.ref (ad mb), .int x] (s_X13_priceOf nq heavyF postToF priceF x) := by
  refine q_body (cc := cX13_priceOf) (maxL := 3) (ret := (some .int)) (by decide) rfl (Nat.le_of_ble_eq_true rfl) ?_
  intro p e s m args below meth c ls X hr hlocks hK hP hl
  obtain ⟨hx, hb, hml, hown, hts⟩ := id X
  have hS : va_S (ipA ad n) s.heap s.heap [] := va_S.rf
  have hl : lv_has ls 3 [(0, .ref (ad mb)), (1, .int x)] := hl
  refine lv_iconst (v := 0) hx hb dX13_priceOf_0 (by decide) ?_
  refine lv_istore_n (lv' := [(2, .int 0), (0, .ref (ad mb)), (1, .int x)]) hx hb dX13_priceOf_1 rfl hl (by decide) rfl (fun ls hl => ?_)
  have loop_2 : ∀ (fuel : Nat) (t2 : Nat), nq - (t2) < fuel → t2 ≤ nq → s_X13_priceOf_2 heavyF postToF priceF x (nq - (t2)) t2 = s_X13_priceOf nq heavyF postToF priceF x → ∀ (ls : Array Slot), lv_has ls 3 [(2, .int (nI t2)), (0, .ref (ad mb)), (1, .int x)] → W p l e (rmOf 0 0) s m args below meth c s.heap [] 0 0 (MQ below (vp_Si (fun r9 => r9 = s_X13_priceOf nq heavyF postToF priceF x)) args s 0 0 (fun _ => False)) (F0 m 2 ls []) := by
    intro fuel
    induction fuel with
    | zero =>
      intro t2 hz
      exact absurd hz (Nat.not_lt_zero _)
    | succ fuel ih_2 =>
      intro t2 hz_2 h_t2 hB_2 ls hl
      skip
      refine lv_iload_n hx hb dX13_priceOf_2 rfl (lv_at hl 0 rfl) ?_
      refine lv_aload_n hx hb dX13_priceOf_3 rfl (lv_at hl 1 rfl) ?_
      refine q_get (v := .ref (ad (mb + 3))) (fs := modF ad mb mv) X hK hP fX13_priceOf_40 h_mb m_mb rfl dX13_priceOf_4 ?_
      refine lv_iconst (v := 3) hx hb dX13_priceOf_7 (by decide) ?_
      refine q_ialdN (f := toldF) (k := 14) X hK hP 3 h_mb_3 m_mb_3 (by decide) (by decide) dX13_priceOf_8 ?_
      refine lv_icmp_ge (tgt := 40) hx hb dX13_priceOf_9 (by decide) (fun c_9 => ?_) (fun c_9 => ?_)
      · rw [k3] at c_9
        have h9_2 : t2 = nq := eq_of_le (t := t2) (k := nq) c_9 (by omega) h_t2
        subst t2
        refine lv_iconst (v := (-1)) hx hb dX13_priceOf_40 (by decide) ?_
        exact q_iret hb hx hr hlocks (by rw [← hB_2, Nat.sub_self, s_X13_priceOf_2]) dX13_priceOf_41
      · rw [k3] at c_9
        have h9_2 : t2 < nq := lt_of_nlt (t := t2) (k := nq) c_9 (by omega) h_t2
        refine lv_aload_n hx hb dX13_priceOf_12 rfl (lv_at hl 1 rfl) ?_
        refine q_get (v := .ref (ad (mb + 13))) (fs := modF ad mb mv) X hK hP fX13_priceOf_69 h_mb m_mb rfl dX13_priceOf_13 ?_
        refine lv_iload_n hx hb dX13_priceOf_16 rfl (lv_at hl 2 rfl) ?_
        refine q_iald (f := heavyF) (k := 24) X hK hP h_mb_13 m_mb_13 (by assumption) dX13_priceOf_17 ?_
        refine lv_aload_n hx hb dX13_priceOf_18 rfl (lv_at hl 1 rfl) ?_
        refine q_get (v := .ref (ad (mb + 19))) (fs := modF ad mb mv) X hK hP fX13_priceOf_87 h_mb m_mb rfl dX13_priceOf_19 ?_
        refine lv_iload_n hx hb dX13_priceOf_22 rfl (lv_at hl 0 rfl) ?_
        refine q_ialdN (f := postToF) (k := 12) X hK hP t2 h_mb_19 m_mb_19 (by omega) (by decide) dX13_priceOf_23 ?_
        refine lv_icmp_gt (tgt := 34) hx hb dX13_priceOf_24 (by decide) (fun c_24 => ?_) (fun c_24 => ?_)
        · skip
          refine lv_iinc (v := ((nI t2) + 1)) (lv' := [(2, .int ((nI t2) + 1)), (0, .ref (ad mb)), (1, .int x)]) hx hb dX13_priceOf_34 hl (k := 0) rfl rfl (by decide) rfl (fun ls hl => ?_)
          refine lv_goto (tgt := 2) hx hb dX13_priceOf_37 (by decide) ?_
          exact ih_2 (t2 + 1)  (by omega) (by omega) (by rw [← hB_2, show nq - (t2) = (nq - (t2 + 1)) + 1 by omega, s_X13_priceOf_2, if_pos c_24]) ls (by rw [(show nI (t2 + 1) = nI t2 + 1 by exact nI_succ _)]; exact lv_sub hl [0, 1, 2] rfl)
        · skip
          refine lv_aload_n hx hb dX13_priceOf_27 rfl (lv_at hl 1 rfl) ?_
          refine q_get (v := .ref (ad (mb + 20))) (fs := modF ad mb mv) X hK hP fX13_priceOf_90 h_mb m_mb rfl dX13_priceOf_28 ?_
          refine lv_iload_n hx hb dX13_priceOf_31 rfl (lv_at hl 0 rfl) ?_
          refine q_ialdN (f := priceF) (k := 12) X hK hP t2 h_mb_20 m_mb_20 (by omega) (by decide) dX13_priceOf_32 ?_
          exact q_iret hb hx hr hlocks (by rw [← hB_2, show nq - t2 = (nq - (t2 + 1)) + 1 by omega, s_X13_priceOf_2, if_neg c_24]) dX13_priceOf_33
  exact loop_2 (nq + 1) 0  (by omega) (by omega) (by rw [s_X13_priceOf] <;> rfl) ls (lv_sub hl [0, 1, 2] rfl)
theorem yd_X13_sumAt : YD yX13_sumAt 2 := ⟨by decide +kernel, by decide +kernel, by decide +kernel⟩
set_option maxRecDepth 20000 in
theorem fX13_overOf_56 : FL wsX13_overOf RX13 56 12 8 := ⟨RX13, TX13, 67, rfl, by decide +kernel, by decide, by decide +kernel⟩
def s_X13_overOf (nt : Nat) (limitF : Nat → Int32) (kindF : Nat → Int32) (heavyF : Nat → Int32) (wideF : Nat → Int32) (hotF : Nat → Int32) (placeF : Nat → Int32) (x : Int32) : Int32 := (imax 0 ((s_X13_sumAt nt kindF heavyF wideF hotF placeF x 1) - (limitF x.toNatClampNeg)))
set_option maxHeartbeats 4000000 in
set_option maxRecDepth 100000 in
theorem c_X13_overOf (l : Launch) (D : va_G) (cB cI cJ : ClassId) (ad : Nat → Nat) (n : Nat) (M : Nat → va_E) (mb : Nat) (nt : Nat) (nc : Nat) (np : Nat) (nq : Nat) (mv : Nat → Int32) (toldF : Nat → Int32) (limitF : Nat → Int32) (kindF : Nat → Int32) (heavyF : Nat → Int32) (wideF : Nat → Int32) (hotF : Nat → Int32) (placeF : Nat → Int32) (x : Int32) (h_mb : mb < n) (h_mb_3 : mb + 3 < n) (h_mb_8 : mb + 8 < n) (h_mb_12 : mb + 12 < n) (h_mb_13 : mb + 13 < n) (h_mb_15 : mb + 15 < n) (h_mb_17 : mb + 17 < n) (h_mb_18 : mb + 18 < n) (m_mb : M mb = .inr (12, modF ad mb mv)) (m_mb_3 : M (mb + 3) = .inl (cI, 14, .inl toldF)) (m_mb_8 : M (mb + 8) = .inl (cI, 10, .inl limitF)) (m_mb_12 : M (mb + 12) = .inl (cI, 24, .inl kindF)) (m_mb_13 : M (mb + 13) = .inl (cI, 24, .inl heavyF)) (m_mb_15 : M (mb + 15) = .inl (cI, 24, .inl wideF)) (m_mb_17 : M (mb + 17) = .inl (cI, 24, .inl hotF)) (m_mb_18 : M (mb + 18) = .inl (cI, 24, .inl placeF)) (k0 : toldF 0 = nI np) (hnp : np ≤ 4) (k1 : toldF 1 = nI nc) (hnc : nc ≤ 5) (k2 : toldF 2 = nI nt) (hnt : nt ≤ 12) (k3 : toldF 3 = nI nq) (hnq : nq ≤ 6) (vx : vp_in x 10) : cR l D cB cI cJ ad n M yX13_overOf wsX13_overOf 1 25 [.ref (ad mb), .int x] (s_X13_overOf nt limitF kindF heavyF wideF hotF placeF x) := by
  refine q_body (cc := cX13_overOf) (maxL := 2) (ret := (some .int)) (by decide) rfl (Nat.le_of_ble_eq_true rfl) ?_
  intro p e s m args below meth c ls X hr hlocks hK hP hl
  obtain ⟨hx, hb, hml, hown, hts⟩ := id X
  have hS : va_S (ipA ad n) s.heap s.heap [] := va_S.rf
  have hl : lv_has ls 2 [(0, .ref (ad mb)), (1, .int x)] := hl
  refine lv_iconst (v := 0) hx hb dX13_overOf_0 (by decide) ?_
  refine lv_aload_n hx hb dX13_overOf_1 rfl (lv_at hl 0 rfl) ?_
  refine lv_iload_n hx hb dX13_overOf_2 rfl (lv_at hl 1 rfl) ?_
  refine lv_iconst (v := 1) hx hb dX13_overOf_3 (by decide) ?_
  refine q_rdV (As := [.int x, .int 1]) (rest := [.int 0]) (c_X13_sumAt l D cB cI cJ ad n M mb nt nc np nq mv toldF kindF heavyF wideF hotF placeF x 1 h_mb h_mb_3 h_mb_12 h_mb_13 h_mb_15 h_mb_17 h_mb_18 m_mb m_mb_3 m_mb_12 m_mb_13 m_mb_15 m_mb_17 m_mb_18 k0 hnp k1 hnc k2 hnt k3 hnq) X hK hP hS hl.1 rfl gX13_overOf_X13_sumAt yd_X13_sumAt ⟨Nat.le_of_ble_eq_true rfl, Nat.le_of_ble_eq_true rfl⟩ h_mb m_mb (ci := 12) rfl rfl (Nat.le_of_ble_eq_true rfl) ⟨Nat.zero_le _, Nat.zero_le _⟩ dX13_overOf_4 ?_
  refine lv_aload_n hx hb dX13_overOf_7 rfl (lv_at hl 0 rfl) ?_
  refine q_get (v := .ref (ad (mb + 8))) (fs := modF ad mb mv) X hK hP fX13_overOf_56 h_mb m_mb rfl dX13_overOf_8 ?_
  refine lv_iload_n hx hb dX13_overOf_11 rfl (lv_at hl 1 rfl) ?_
  refine q_iald (f := limitF) (k := 10) X hK hP h_mb_8 m_mb_8 (by assumption) dX13_overOf_12 ?_
  refine lv_isub hx hb dX13_overOf_13 ?_
  refine q_max X hl.1 (by decide +kernel) (by decide +kernel) (by decide +kernel) (by decide +kernel) ⟨Nat.le_of_ble_eq_true rfl, Nat.le_of_ble_eq_true rfl⟩ (Nat.le_of_ble_eq_true rfl) ⟨Nat.zero_le _, Nat.zero_le _⟩ dX13_overOf_14 ?_
  exact q_iret hb hx hr hlocks (by rfl) dX13_overOf_17
set_option maxRecDepth 20000 in
theorem fX13_unsureAt_40 : FL wsX13_unsureAt RX13 40 12 3 := ⟨RX13, TX13, 67, rfl, by decide +kernel, by decide, by decide +kernel⟩
set_option maxRecDepth 20000 in
theorem fX13_unsureAt_84 : FL wsX13_unsureAt RX13 84 12 18 := ⟨RX13, TX13, 67, rfl, by decide +kernel, by decide, by decide +kernel⟩
set_option maxRecDepth 20000 in
theorem fX13_unsureAt_72 : FL wsX13_unsureAt RX13 72 12 14 := ⟨RX13, TX13, 67, rfl, by decide +kernel, by decide, by decide +kernel⟩
def s_X13_unsureAt_4s (unsureF : Nat → Int32) (placeF : Nat → Int32) (x : Int32) (t4 : Nat) (x4_2 : Int32) : Int32 := if (placeF t4) = x then (x4_2 + (unsureF t4)) else (x4_2 + 0)
def s_X13_unsureAt_4 (unsureF : Nat → Int32) (placeF : Nat → Int32) (x : Int32) (z0 : Int32) : Nat → Int32
  | 0 => z0
  | t + 1 => s_X13_unsureAt_4s unsureF placeF x t (s_X13_unsureAt_4 unsureF placeF x z0 t)
def s_X13_unsureAt (nt : Nat) (unsureF : Nat → Int32) (placeF : Nat → Int32) (x : Int32) : Int32 := (s_X13_unsureAt_4 unsureF placeF x 0 nt)
set_option maxHeartbeats 4000000 in
set_option maxRecDepth 100000 in
theorem c_X13_unsureAt (l : Launch) (D : va_G) (cB cI cJ : ClassId) (ad : Nat → Nat) (n : Nat) (M : Nat → va_E) (mb : Nat) (nt : Nat) (nc : Nat) (np : Nat) (nq : Nat) (mv : Nat → Int32) (toldF : Nat → Int32) (unsureF : Nat → Int32) (placeF : Nat → Int32) (x : Int32) (h_mb : mb < n) (h_mb_3 : mb + 3 < n) (h_mb_14 : mb + 14 < n) (h_mb_18 : mb + 18 < n) (m_mb : M mb = .inr (12, modF ad mb mv)) (m_mb_3 : M (mb + 3) = .inl (cI, 14, .inl toldF)) (m_mb_14 : M (mb + 14) = .inl (cI, 24, .inl unsureF)) (m_mb_18 : M (mb + 18) = .inl (cI, 24, .inl placeF)) (k0 : toldF 0 = nI np) (hnp : np ≤ 4) (k1 : toldF 1 = nI nc) (hnc : nc ≤ 5) (k2 : toldF 2 = nI nt) (hnt : nt ≤ 12) (k3 : toldF 3 = nI nq) (hnq : nq ≤ 6) : cR l D cB cI cJ ad n M yX13_unsureAt wsX13_unsureAt 0 0 [.ref (ad mb), .int x] (s_X13_unsureAt nt unsureF placeF x) := by
  refine q_body (cc := cX13_unsureAt) (maxL := 4) (ret := (some .int)) (by decide) rfl (Nat.le_of_ble_eq_true rfl) ?_
  intro p e s m args below meth c ls X hr hlocks hK hP hl
  obtain ⟨hx, hb, hml, hown, hts⟩ := id X
  have hS : va_S (ipA ad n) s.heap s.heap [] := va_S.rf
  have hl : lv_has ls 4 [(0, .ref (ad mb)), (1, .int x)] := hl
  refine lv_iconst (v := 0) hx hb dX13_unsureAt_0 (by decide) ?_
  refine lv_istore_n (lv' := [(2, .int 0), (0, .ref (ad mb)), (1, .int x)]) hx hb dX13_unsureAt_1 rfl hl (by decide) rfl (fun ls hl => ?_)
  refine lv_iconst (v := 0) hx hb dX13_unsureAt_2 (by decide) ?_
  refine lv_istore_n (lv' := [(3, .int 0), (2, .int 0), (0, .ref (ad mb)), (1, .int x)]) hx hb dX13_unsureAt_3 rfl hl (by decide) rfl (fun ls hl => ?_)
  have loop_4 : ∀ (fuel : Nat) (t4 : Nat) (x4_2 : Int32), nt - (t4) < fuel → t4 ≤ nt → x4_2 = (s_X13_unsureAt_4 unsureF placeF x 0 t4) → ∀ (ls : Array Slot), lv_has ls 4 [(3, .int (nI t4)), (2, .int x4_2), (0, .ref (ad mb)), (1, .int x)] → W p l e (rmOf 0 0) s m args below meth c s.heap [] 0 0 (MQ below (vp_Si (fun r9 => r9 = s_X13_unsureAt nt unsureF placeF x)) args s 0 0 (fun _ => False)) (F0 m 4 ls []) := by
    intro fuel
    induction fuel with
    | zero =>
      intro t4 x4_2 hz
      exact absurd hz (Nat.not_lt_zero _)
    | succ fuel ih_4 =>
      intro t4 x4_2 hz_4 h_t4 e_x4_2 ls hl
      skip
      refine lv_iload_n hx hb dX13_unsureAt_4 rfl (lv_at hl 0 rfl) ?_
      refine lv_aload_n hx hb dX13_unsureAt_5 rfl (lv_at hl 2 rfl) ?_
      refine q_get (v := .ref (ad (mb + 3))) (fs := modF ad mb mv) X hK hP fX13_unsureAt_40 h_mb m_mb rfl dX13_unsureAt_6 ?_
      refine lv_iconst (v := 2) hx hb dX13_unsureAt_9 (by decide) ?_
      refine q_ialdN (f := toldF) (k := 14) X hK hP 2 h_mb_3 m_mb_3 (by decide) (by decide) dX13_unsureAt_10 ?_
      refine lv_icmp_ge (tgt := 43) hx hb dX13_unsureAt_11 (by decide) (fun c_11 => ?_) (fun c_11 => ?_)
      · rw [k2] at c_11
        have h9_4 : t4 = nt := eq_of_le (t := t4) (k := nt) c_11 (by omega) h_t4
        subst t4
        subst e_x4_2
        refine lv_iload_n hx hb dX13_unsureAt_43 rfl (lv_at hl 1 rfl) ?_
        exact q_iret hb hx hr hlocks (by rfl) dX13_unsureAt_44
      · rw [k2] at c_11
        have h9_4 : t4 < nt := lt_of_nlt (t := t4) (k := nt) c_11 (by omega) h_t4
        refine lv_iload_n hx hb dX13_unsureAt_14 rfl (lv_at hl 1 rfl) ?_
        refine lv_aload_n hx hb dX13_unsureAt_15 rfl (lv_at hl 2 rfl) ?_
        refine q_get (v := .ref (ad (mb + 18))) (fs := modF ad mb mv) X hK hP fX13_unsureAt_84 h_mb m_mb rfl dX13_unsureAt_16 ?_
        refine lv_iload_n hx hb dX13_unsureAt_19 rfl (lv_at hl 0 rfl) ?_
        refine q_ialdN (f := placeF) (k := 24) X hK hP t4 h_mb_18 m_mb_18 (by omega) (by decide) dX13_unsureAt_20 ?_
        refine lv_iload_n hx hb dX13_unsureAt_21 rfl (lv_at hl 3 rfl) ?_
        refine lv_icmp_ne (tgt := 34) hx hb dX13_unsureAt_22 (by decide) (fun c_22 => ?_) (fun c_22 => ?_)
        · skip
          refine lv_iconst (v := 0) hx hb dX13_unsureAt_34 (by decide) ?_
          refine lv_iadd hx hb dX13_unsureAt_35 ?_
          refine lv_istore_n (lv' := [(2, .int (x4_2 + 0)), (3, .int (nI t4)), (0, .ref (ad mb)), (1, .int x)]) hx hb dX13_unsureAt_36 rfl hl (by decide) rfl (fun ls hl => ?_)
          refine lv_iinc (v := ((nI t4) + 1)) (lv' := [(3, .int ((nI t4) + 1)), (2, .int (x4_2 + 0)), (0, .ref (ad mb)), (1, .int x)]) hx hb dX13_unsureAt_37 hl (k := 1) rfl rfl (by decide) rfl (fun ls hl => ?_)
          refine lv_goto (tgt := 4) hx hb dX13_unsureAt_40 (by decide) ?_
          exact ih_4 (t4 + 1) (x4_2 + 0) (by omega) (by omega) (by rw [s_X13_unsureAt_4, ← e_x4_2, s_X13_unsureAt_4s, if_neg c_22]) ls (by rw [(show nI (t4 + 1) = nI t4 + 1 by exact nI_succ _)]; exact lv_sub hl [0, 1, 2, 3] rfl)
        · skip
          refine lv_aload_n hx hb dX13_unsureAt_25 rfl (lv_at hl 2 rfl) ?_
          refine q_get (v := .ref (ad (mb + 14))) (fs := modF ad mb mv) X hK hP fX13_unsureAt_72 h_mb m_mb rfl dX13_unsureAt_26 ?_
          refine lv_iload_n hx hb dX13_unsureAt_29 rfl (lv_at hl 0 rfl) ?_
          refine q_ialdN (f := unsureF) (k := 24) X hK hP t4 h_mb_14 m_mb_14 (by omega) (by decide) dX13_unsureAt_30 ?_
          refine lv_goto (tgt := 35) hx hb dX13_unsureAt_31 (by decide) ?_
          refine lv_iadd hx hb dX13_unsureAt_35 ?_
          refine lv_istore_n (lv' := [(2, .int (x4_2 + (unsureF t4))), (3, .int (nI t4)), (0, .ref (ad mb)), (1, .int x)]) hx hb dX13_unsureAt_36 rfl hl (by decide) rfl (fun ls hl => ?_)
          refine lv_iinc (v := ((nI t4) + 1)) (lv' := [(3, .int ((nI t4) + 1)), (2, .int (x4_2 + (unsureF t4))), (0, .ref (ad mb)), (1, .int x)]) hx hb dX13_unsureAt_37 hl (k := 1) rfl rfl (by decide) rfl (fun ls hl => ?_)
          refine lv_goto (tgt := 4) hx hb dX13_unsureAt_40 (by decide) ?_
          exact ih_4 (t4 + 1) (x4_2 + (unsureF t4)) (by omega) (by omega) (by rw [s_X13_unsureAt_4, ← e_x4_2, s_X13_unsureAt_4s, if_pos c_22]) ls (by rw [(show nI (t4 + 1) = nI t4 + 1 by exact nI_succ _)]; exact lv_sub hl [0, 1, 2, 3] rfl)
  exact loop_4 (nt + 1) 0 0 (by omega) (by omega) (by rfl) ls (lv_sub hl [0, 1, 2, 3] rfl)
theorem yd_X13_unsureAt : YD yX13_unsureAt 1 := ⟨by decide +kernel, by decide +kernel, by decide +kernel⟩
set_option maxRecDepth 20000 in
theorem fX13_sureOf_56 : FL wsX13_sureOf RX13 56 12 8 := ⟨RX13, TX13, 67, rfl, by decide +kernel, by decide, by decide +kernel⟩
def s_X13_sureOf (nt : Nat) (limitF : Nat → Int32) (kindF : Nat → Int32) (heavyF : Nat → Int32) (unsureF : Nat → Int32) (wideF : Nat → Int32) (hotF : Nat → Int32) (placeF : Nat → Int32) (x : Int32) : Int32 := if (limitF x.toNatClampNeg) < ((s_X13_sumAt nt kindF heavyF wideF hotF placeF x 1) + (s_X13_unsureAt nt unsureF placeF x)) then if ((s_X13_sumAt nt kindF heavyF wideF hotF placeF x 1) - (s_X13_unsureAt nt unsureF placeF x)) ≤ (limitF x.toNatClampNeg) then 2 else 0 else 1
set_option maxHeartbeats 4000000 in
set_option maxRecDepth 100000 in
theorem c_X13_sureOf (l : Launch) (D : va_G) (cB cI cJ : ClassId) (ad : Nat → Nat) (n : Nat) (M : Nat → va_E) (mb : Nat) (nt : Nat) (nc : Nat) (np : Nat) (nq : Nat) (mv : Nat → Int32) (toldF : Nat → Int32) (limitF : Nat → Int32) (kindF : Nat → Int32) (heavyF : Nat → Int32) (unsureF : Nat → Int32) (wideF : Nat → Int32) (hotF : Nat → Int32) (placeF : Nat → Int32) (x : Int32) (h_mb : mb < n) (h_mb_3 : mb + 3 < n) (h_mb_8 : mb + 8 < n) (h_mb_12 : mb + 12 < n) (h_mb_13 : mb + 13 < n) (h_mb_14 : mb + 14 < n) (h_mb_15 : mb + 15 < n) (h_mb_17 : mb + 17 < n) (h_mb_18 : mb + 18 < n) (m_mb : M mb = .inr (12, modF ad mb mv)) (m_mb_3 : M (mb + 3) = .inl (cI, 14, .inl toldF)) (m_mb_8 : M (mb + 8) = .inl (cI, 10, .inl limitF)) (m_mb_12 : M (mb + 12) = .inl (cI, 24, .inl kindF)) (m_mb_13 : M (mb + 13) = .inl (cI, 24, .inl heavyF)) (m_mb_14 : M (mb + 14) = .inl (cI, 24, .inl unsureF)) (m_mb_15 : M (mb + 15) = .inl (cI, 24, .inl wideF)) (m_mb_17 : M (mb + 17) = .inl (cI, 24, .inl hotF)) (m_mb_18 : M (mb + 18) = .inl (cI, 24, .inl placeF)) (k0 : toldF 0 = nI np) (hnp : np ≤ 4) (k1 : toldF 1 = nI nc) (hnc : nc ≤ 5) (k2 : toldF 2 = nI nt) (hnt : nt ≤ 12) (k3 : toldF 3 = nI nq) (hnq : nq ≤ 6) (vx : vp_in x 10) : cR l D cB cI cJ ad n M yX13_sureOf wsX13_sureOf 1 25 [.ref (ad mb), .int x] (s_X13_sureOf nt limitF kindF heavyF unsureF wideF hotF placeF x) := by
  refine q_body (cc := cX13_sureOf) (maxL := 2) (ret := (some .int)) (by decide) rfl (Nat.le_of_ble_eq_true rfl) ?_
  intro p e s m args below meth c ls X hr hlocks hK hP hl
  obtain ⟨hx, hb, hml, hown, hts⟩ := id X
  have hS : va_S (ipA ad n) s.heap s.heap [] := va_S.rf
  have hl : lv_has ls 2 [(0, .ref (ad mb)), (1, .int x)] := hl
  refine lv_aload_n hx hb dX13_sureOf_0 rfl (lv_at hl 0 rfl) ?_
  refine lv_iload_n hx hb dX13_sureOf_1 rfl (lv_at hl 1 rfl) ?_
  refine lv_iconst (v := 1) hx hb dX13_sureOf_2 (by decide) ?_
  refine q_rdV (As := [.int x, .int 1]) (rest := []) (c_X13_sumAt l D cB cI cJ ad n M mb nt nc np nq mv toldF kindF heavyF wideF hotF placeF x 1 h_mb h_mb_3 h_mb_12 h_mb_13 h_mb_15 h_mb_17 h_mb_18 m_mb m_mb_3 m_mb_12 m_mb_13 m_mb_15 m_mb_17 m_mb_18 k0 hnp k1 hnc k2 hnt k3 hnq) X hK hP hS hl.1 rfl gX13_sureOf_X13_sumAt yd_X13_sumAt ⟨Nat.le_of_ble_eq_true rfl, Nat.le_of_ble_eq_true rfl⟩ h_mb m_mb (ci := 12) rfl rfl (Nat.le_of_ble_eq_true rfl) ⟨Nat.zero_le _, Nat.zero_le _⟩ dX13_sureOf_3 ?_
  refine lv_aload_n hx hb dX13_sureOf_6 rfl (lv_at hl 0 rfl) ?_
  refine lv_iload_n hx hb dX13_sureOf_7 rfl (lv_at hl 1 rfl) ?_
  refine q_rdV (As := [.int x]) (rest := [.int (s_X13_sumAt nt kindF heavyF wideF hotF placeF x 1)]) (c_X13_unsureAt l D cB cI cJ ad n M mb nt nc np nq mv toldF unsureF placeF x h_mb h_mb_3 h_mb_14 h_mb_18 m_mb m_mb_3 m_mb_14 m_mb_18 k0 hnp k1 hnc k2 hnt k3 hnq) X hK hP hS hl.1 rfl gX13_sureOf_X13_unsureAt yd_X13_unsureAt ⟨Nat.le_of_ble_eq_true rfl, Nat.le_of_ble_eq_true rfl⟩ h_mb m_mb (ci := 12) rfl rfl (Nat.le_of_ble_eq_true rfl) ⟨Nat.zero_le _, Nat.zero_le _⟩ dX13_sureOf_8 ?_
  refine lv_iadd hx hb dX13_sureOf_11 ?_
  refine lv_aload_n hx hb dX13_sureOf_12 rfl (lv_at hl 0 rfl) ?_
  refine q_get (v := .ref (ad (mb + 8))) (fs := modF ad mb mv) X hK hP fX13_sureOf_56 h_mb m_mb rfl dX13_sureOf_13 ?_
  refine lv_iload_n hx hb dX13_sureOf_16 rfl (lv_at hl 1 rfl) ?_
  refine q_iald (f := limitF) (k := 10) X hK hP h_mb_8 m_mb_8 (by assumption) dX13_sureOf_17 ?_
  refine lv_icmp_gt (tgt := 25) hx hb dX13_sureOf_18 (by decide) (fun c_18 => ?_) (fun c_18 => ?_)
  · skip
    refine lv_aload_n hx hb dX13_sureOf_25 rfl (lv_at hl 0 rfl) ?_
    refine lv_iload_n hx hb dX13_sureOf_26 rfl (lv_at hl 1 rfl) ?_
    refine lv_iconst (v := 1) hx hb dX13_sureOf_27 (by decide) ?_
    refine q_rdV (As := [.int x, .int 1]) (rest := []) (c_X13_sumAt l D cB cI cJ ad n M mb nt nc np nq mv toldF kindF heavyF wideF hotF placeF x 1 h_mb h_mb_3 h_mb_12 h_mb_13 h_mb_15 h_mb_17 h_mb_18 m_mb m_mb_3 m_mb_12 m_mb_13 m_mb_15 m_mb_17 m_mb_18 k0 hnp k1 hnc k2 hnt k3 hnq) X hK hP hS hl.1 rfl gX13_sureOf_X13_sumAt yd_X13_sumAt ⟨Nat.le_of_ble_eq_true rfl, Nat.le_of_ble_eq_true rfl⟩ h_mb m_mb (ci := 12) rfl rfl (Nat.le_of_ble_eq_true rfl) ⟨Nat.zero_le _, Nat.zero_le _⟩ dX13_sureOf_28 ?_
    refine lv_aload_n hx hb dX13_sureOf_31 rfl (lv_at hl 0 rfl) ?_
    refine lv_iload_n hx hb dX13_sureOf_32 rfl (lv_at hl 1 rfl) ?_
    refine q_rdV (As := [.int x]) (rest := [.int (s_X13_sumAt nt kindF heavyF wideF hotF placeF x 1)]) (c_X13_unsureAt l D cB cI cJ ad n M mb nt nc np nq mv toldF unsureF placeF x h_mb h_mb_3 h_mb_14 h_mb_18 m_mb m_mb_3 m_mb_14 m_mb_18 k0 hnp k1 hnc k2 hnt k3 hnq) X hK hP hS hl.1 rfl gX13_sureOf_X13_unsureAt yd_X13_unsureAt ⟨Nat.le_of_ble_eq_true rfl, Nat.le_of_ble_eq_true rfl⟩ h_mb m_mb (ci := 12) rfl rfl (Nat.le_of_ble_eq_true rfl) ⟨Nat.zero_le _, Nat.zero_le _⟩ dX13_sureOf_33 ?_
    refine lv_isub hx hb dX13_sureOf_36 ?_
    refine lv_aload_n hx hb dX13_sureOf_37 rfl (lv_at hl 0 rfl) ?_
    refine q_get (v := .ref (ad (mb + 8))) (fs := modF ad mb mv) X hK hP fX13_sureOf_56 h_mb m_mb rfl dX13_sureOf_38 ?_
    refine lv_iload_n hx hb dX13_sureOf_41 rfl (lv_at hl 1 rfl) ?_
    refine q_iald (f := limitF) (k := 10) X hK hP h_mb_8 m_mb_8 (by assumption) dX13_sureOf_42 ?_
    refine lv_icmp_le (tgt := 50) hx hb dX13_sureOf_43 (by decide) (fun c_43 => ?_) (fun c_43 => ?_)
    · skip
      refine lv_iconst (v := 2) hx hb dX13_sureOf_50 (by decide) ?_
      exact q_iret hb hx hr hlocks (by rw [s_X13_sureOf, if_pos c_18, if_pos c_43]) dX13_sureOf_51
    · skip
      refine lv_iconst (v := 0) hx hb dX13_sureOf_46 (by decide) ?_
      refine lv_goto (tgt := 51) hx hb dX13_sureOf_47 (by decide) ?_
      exact q_iret hb hx hr hlocks (by rw [s_X13_sureOf, if_pos c_18, if_neg c_43]) dX13_sureOf_51
  · skip
    refine lv_iconst (v := 1) hx hb dX13_sureOf_21 (by decide) ?_
    refine lv_goto (tgt := 51) hx hb dX13_sureOf_22 (by decide) ?_
    exact q_iret hb hx hr hlocks (by rw [s_X13_sureOf, if_neg c_18]) dX13_sureOf_51
set_option maxRecDepth 20000 in
theorem fX13_allGo_40 : FL wsX13_allGo RX13 40 12 3 := ⟨RX13, TX13, 67, rfl, by decide +kernel, by decide, by decide +kernel⟩
theorem yd_X13_overOf : YD yX13_overOf 1 := ⟨by decide +kernel, by decide +kernel, by decide +kernel⟩
def s_X13_allGo_2 (nt : Nat) (limitF : Nat → Int32) (kindF : Nat → Int32) (heavyF : Nat → Int32) (wideF : Nat → Int32) (hotF : Nat → Int32) (placeF : Nat → Int32) : Nat → Nat → Int32
  | 0, _ => 1
  | r + 1, t2 => if (s_X13_overOf nt limitF kindF heavyF wideF hotF placeF (nI t2)) ≤ 0 then s_X13_allGo_2 nt limitF kindF heavyF wideF hotF placeF r (t2 + 1) else 0
def s_X13_allGo (nt : Nat) (nc : Nat) (limitF : Nat → Int32) (kindF : Nat → Int32) (heavyF : Nat → Int32) (wideF : Nat → Int32) (hotF : Nat → Int32) (placeF : Nat → Int32) : Int32 := (s_X13_allGo_2 nt limitF kindF heavyF wideF hotF placeF nc 0)
set_option maxHeartbeats 4000000 in
set_option maxRecDepth 100000 in
theorem c_X13_allGo (l : Launch) (D : va_G) (cB cI cJ : ClassId) (ad : Nat → Nat) (n : Nat) (M : Nat → va_E) (mb : Nat) (nt : Nat) (nc : Nat) (np : Nat) (nq : Nat) (mv : Nat → Int32) (toldF : Nat → Int32) (limitF : Nat → Int32) (kindF : Nat → Int32) (heavyF : Nat → Int32) (wideF : Nat → Int32) (hotF : Nat → Int32) (placeF : Nat → Int32) (h_mb : mb < n) (h_mb_3 : mb + 3 < n) (h_mb_8 : mb + 8 < n) (h_mb_12 : mb + 12 < n) (h_mb_13 : mb + 13 < n) (h_mb_15 : mb + 15 < n) (h_mb_17 : mb + 17 < n) (h_mb_18 : mb + 18 < n) (m_mb : M mb = .inr (12, modF ad mb mv)) (m_mb_3 : M (mb + 3) = .inl (cI, 14, .inl toldF)) (m_mb_8 : M (mb + 8) = .inl (cI, 10, .inl limitF)) (m_mb_12 : M (mb + 12) = .inl (cI, 24, .inl kindF)) (m_mb_13 : M (mb + 13) = .inl (cI, 24, .inl heavyF)) (m_mb_15 : M (mb + 15) = .inl (cI, 24, .inl wideF)) (m_mb_17 : M (mb + 17) = .inl (cI, 24, .inl hotF)) (m_mb_18 : M (mb + 18) = .inl (cI, 24, .inl placeF)) (k0 : toldF 0 = nI np) (hnp : np ≤ 4) (k1 : toldF 1 = nI nc) (hnc : nc ≤ 5) (k2 : toldF 2 = nI nt) (hnt : nt ≤ 12) (k3 : toldF 3 = nI nq) (hnq : nq ≤ 6) : cR l D cB cI cJ ad n M yX13_allGo wsX13_allGo 2 46 [.ref (ad mb)] (s_X13_allGo nt nc limitF kindF heavyF wideF hotF placeF) := by
  refine q_body (cc := cX13_allGo) (maxL := 2) (ret := (some .boolean)) (by decide) rfl (Nat.le_of_ble_eq_true rfl) ?_
  intro p e s m args below meth c ls X hr hlocks hK hP hl
  obtain ⟨hx, hb, hml, hown, hts⟩ := id X
  have hS : va_S (ipA ad n) s.heap s.heap [] := va_S.rf
  have hl : lv_has ls 2 [(0, .ref (ad mb))] := hl
  refine lv_iconst (v := 0) hx hb dX13_allGo_0 (by decide) ?_
  refine lv_istore_n (lv' := [(1, .int 0), (0, .ref (ad mb))]) hx hb dX13_allGo_1 rfl hl (by decide) rfl (fun ls hl => ?_)
  have loop_2 : ∀ (fuel : Nat) (t2 : Nat), nc - (t2) < fuel → t2 ≤ nc → s_X13_allGo_2 nt limitF kindF heavyF wideF hotF placeF (nc - (t2)) t2 = s_X13_allGo nt nc limitF kindF heavyF wideF hotF placeF → ∀ (ls : Array Slot), lv_has ls 2 [(1, .int (nI t2)), (0, .ref (ad mb))] → W p l e (rmOf 2 46) s m args below meth c s.heap [] 0 0 (MQ below (vp_Si (fun r9 => r9 = s_X13_allGo nt nc limitF kindF heavyF wideF hotF placeF)) args s 0 0 (fun _ => False)) (F0 m 2 ls []) := by
    intro fuel
    induction fuel with
    | zero =>
      intro t2 hz
      exact absurd hz (Nat.not_lt_zero _)
    | succ fuel ih_2 =>
      intro t2 hz_2 h_t2 hB_2 ls hl
      skip
      refine lv_iload_n hx hb dX13_allGo_2 rfl (lv_at hl 0 rfl) ?_
      refine lv_aload_n hx hb dX13_allGo_3 rfl (lv_at hl 1 rfl) ?_
      refine q_get (v := .ref (ad (mb + 3))) (fs := modF ad mb mv) X hK hP fX13_allGo_40 h_mb m_mb rfl dX13_allGo_4 ?_
      refine lv_iconst (v := 1) hx hb dX13_allGo_7 (by decide) ?_
      refine q_ialdN (f := toldF) (k := 14) X hK hP 1 h_mb_3 m_mb_3 (by decide) (by decide) dX13_allGo_8 ?_
      refine lv_icmp_ge (tgt := 28) hx hb dX13_allGo_9 (by decide) (fun c_9 => ?_) (fun c_9 => ?_)
      · rw [k1] at c_9
        have h9_2 : t2 = nc := eq_of_le (t := t2) (k := nc) c_9 (by omega) h_t2
        subst t2
        refine lv_iconst (v := 1) hx hb dX13_allGo_28 (by decide) ?_
        exact q_zret X hr hlocks (rfl) (by rw [← hB_2, Nat.sub_self, s_X13_allGo_2]) dX13_allGo_29
      · rw [k1] at c_9
        have h9_2 : t2 < nc := lt_of_nlt (t := t2) (k := nc) c_9 (by omega) h_t2
        refine lv_aload_n hx hb dX13_allGo_12 rfl (lv_at hl 1 rfl) ?_
        refine lv_iload_n hx hb dX13_allGo_13 rfl (lv_at hl 0 rfl) ?_
        refine q_rdV (As := [.int (nI t2)]) (rest := []) (c_X13_overOf l D cB cI cJ ad n M mb nt nc np nq mv toldF limitF kindF heavyF wideF hotF placeF (nI t2) h_mb h_mb_3 h_mb_8 h_mb_12 h_mb_13 h_mb_15 h_mb_17 h_mb_18 m_mb m_mb_3 m_mb_8 m_mb_12 m_mb_13 m_mb_15 m_mb_17 m_mb_18 k0 hnp k1 hnc k2 hnt k3 hnq (by first | assumption | omega | exact vp_in_nI (by omega) (by decide) | exact vp_in_iff.mpr (by decide))) X hK hP hS hl.1 rfl gX13_allGo_X13_overOf yd_X13_overOf ⟨Nat.le_of_ble_eq_true rfl, Nat.le_of_ble_eq_true rfl⟩ h_mb m_mb (ci := 12) rfl rfl (Nat.le_of_ble_eq_true rfl) ⟨Nat.zero_le _, Nat.zero_le _⟩ dX13_allGo_14 ?_
        refine lv_if_le (tgt := 22) hx hb dX13_allGo_17 (by decide) (fun c_17 => ?_) (fun c_17 => ?_)
        · skip
          refine lv_iinc (v := ((nI t2) + 1)) (lv' := [(1, .int ((nI t2) + 1)), (0, .ref (ad mb))]) hx hb dX13_allGo_22 hl (k := 0) rfl rfl (by decide) rfl (fun ls hl => ?_)
          refine lv_goto (tgt := 2) hx hb dX13_allGo_25 (by decide) ?_
          exact ih_2 (t2 + 1)  (by omega) (by omega) (by rw [← hB_2, show nc - (t2) = (nc - (t2 + 1)) + 1 by omega, s_X13_allGo_2, if_pos c_17]) ls (by rw [(show nI (t2 + 1) = nI t2 + 1 by exact nI_succ _)]; exact lv_sub hl [0, 1] rfl)
        · skip
          refine lv_iconst (v := 0) hx hb dX13_allGo_20 (by decide) ?_
          exact q_zret X hr hlocks (rfl) (by rw [← hB_2, show nc - t2 = (nc - (t2 + 1)) + 1 by omega, s_X13_allGo_2, if_neg c_17]) dX13_allGo_21
  exact loop_2 (nc + 1) 0  (by omega) (by omega) (by rw [s_X13_allGo] <;> rfl) ls (lv_sub hl [0, 1] rfl)
set_option maxRecDepth 20000 in
theorem fX13_ownsOne_40 : FL wsX13_ownsOne RX13 40 12 3 := ⟨RX13, TX13, 67, rfl, by decide +kernel, by decide, by decide +kernel⟩
set_option maxRecDepth 20000 in
theorem fX13_ownsOne_53 : FL wsX13_ownsOne RX13 53 12 7 := ⟨RX13, TX13, 67, rfl, by decide +kernel, by decide, by decide +kernel⟩
def s_X13_ownsOne_2 (ownerF : Nat → Int32) (x : Int32) (y : Int32) : Nat → Nat → Int32
  | 0, _ => 0
  | r + 1, t2 => if ((y >>> ((nI t2) &&& 31)) &&& 1) = 1 then if (ownerF t2) = x then 1 else s_X13_ownsOne_2 ownerF x y r (t2 + 1) else s_X13_ownsOne_2 ownerF x y r (t2 + 1)
def s_X13_ownsOne (nc : Nat) (ownerF : Nat → Int32) (x : Int32) (y : Int32) : Int32 := (s_X13_ownsOne_2 ownerF x y nc 0)
set_option maxHeartbeats 4000000 in
set_option maxRecDepth 100000 in
theorem c_X13_ownsOne (l : Launch) (D : va_G) (cB cI cJ : ClassId) (ad : Nat → Nat) (n : Nat) (M : Nat → va_E) (mb : Nat) (nt : Nat) (nc : Nat) (np : Nat) (nq : Nat) (mv : Nat → Int32) (toldF : Nat → Int32) (ownerF : Nat → Int32) (x : Int32) (y : Int32) (h_mb : mb < n) (h_mb_3 : mb + 3 < n) (h_mb_7 : mb + 7 < n) (m_mb : M mb = .inr (12, modF ad mb mv)) (m_mb_3 : M (mb + 3) = .inl (cI, 14, .inl toldF)) (m_mb_7 : M (mb + 7) = .inl (cI, 10, .inl ownerF)) (k0 : toldF 0 = nI np) (hnp : np ≤ 4) (k1 : toldF 1 = nI nc) (hnc : nc ≤ 5) (k2 : toldF 2 = nI nt) (hnt : nt ≤ 12) (k3 : toldF 3 = nI nq) (hnq : nq ≤ 6) : cR l D cB cI cJ ad n M yX13_ownsOne wsX13_ownsOne 0 0 [.ref (ad mb), .int x, .int y] (s_X13_ownsOne nc ownerF x y) := by
  refine q_body (cc := cX13_ownsOne) (maxL := 4) (ret := (some .boolean)) (by decide) rfl (Nat.le_of_ble_eq_true rfl) ?_
  intro p e s m args below meth c ls X hr hlocks hK hP hl
  obtain ⟨hx, hb, hml, hown, hts⟩ := id X
  have hS : va_S (ipA ad n) s.heap s.heap [] := va_S.rf
  have hl : lv_has ls 4 [(0, .ref (ad mb)), (1, .int x), (2, .int y)] := hl
  refine lv_iconst (v := 0) hx hb dX13_ownsOne_0 (by decide) ?_
  refine lv_istore_n (lv' := [(3, .int 0), (0, .ref (ad mb)), (1, .int x), (2, .int y)]) hx hb dX13_ownsOne_1 rfl hl (by decide) rfl (fun ls hl => ?_)
  have loop_2 : ∀ (fuel : Nat) (t2 : Nat), nc - (t2) < fuel → t2 ≤ nc → s_X13_ownsOne_2 ownerF x y (nc - (t2)) t2 = s_X13_ownsOne nc ownerF x y → ∀ (ls : Array Slot), lv_has ls 4 [(3, .int (nI t2)), (0, .ref (ad mb)), (1, .int x), (2, .int y)] → W p l e (rmOf 0 0) s m args below meth c s.heap [] 0 0 (MQ below (vp_Si (fun r9 => r9 = s_X13_ownsOne nc ownerF x y)) args s 0 0 (fun _ => False)) (F0 m 2 ls []) := by
    intro fuel
    induction fuel with
    | zero =>
      intro t2 hz
      exact absurd hz (Nat.not_lt_zero _)
    | succ fuel ih_2 =>
      intro t2 hz_2 h_t2 hB_2 ls hl
      skip
      refine lv_iload_n hx hb dX13_ownsOne_2 rfl (lv_at hl 0 rfl) ?_
      refine lv_aload_n hx hb dX13_ownsOne_3 rfl (lv_at hl 1 rfl) ?_
      refine q_get (v := .ref (ad (mb + 3))) (fs := modF ad mb mv) X hK hP fX13_ownsOne_40 h_mb m_mb rfl dX13_ownsOne_4 ?_
      refine lv_iconst (v := 1) hx hb dX13_ownsOne_7 (by decide) ?_
      refine q_ialdN (f := toldF) (k := 14) X hK hP 1 h_mb_3 m_mb_3 (by decide) (by decide) dX13_ownsOne_8 ?_
      refine lv_icmp_ge (tgt := 39) hx hb dX13_ownsOne_9 (by decide) (fun c_9 => ?_) (fun c_9 => ?_)
      · rw [k1] at c_9
        have h9_2 : t2 = nc := eq_of_le (t := t2) (k := nc) c_9 (by omega) h_t2
        subst t2
        refine lv_iconst (v := 0) hx hb dX13_ownsOne_39 (by decide) ?_
        exact q_zret X hr hlocks (rfl) (by rw [← hB_2, Nat.sub_self, s_X13_ownsOne_2]) dX13_ownsOne_40
      · rw [k1] at c_9
        have h9_2 : t2 < nc := lt_of_nlt (t := t2) (k := nc) c_9 (by omega) h_t2
        refine lv_iload_n hx hb dX13_ownsOne_12 rfl (lv_at hl 3 rfl) ?_
        refine lv_iload_n hx hb dX13_ownsOne_13 rfl (lv_at hl 0 rfl) ?_
        refine lv_ishr hx hb dX13_ownsOne_14 ?_
        refine lv_iconst (v := 1) hx hb dX13_ownsOne_15 (by decide) ?_
        refine lv_iand hx hb dX13_ownsOne_16 ?_
        refine lv_iconst (v := 1) hx hb dX13_ownsOne_17 (by decide) ?_
        refine lv_icmp_ne (tgt := 33) hx hb dX13_ownsOne_18 (by decide) (fun c_18 => ?_) (fun c_18 => ?_)
        · skip
          refine lv_iinc (v := ((nI t2) + 1)) (lv' := [(3, .int ((nI t2) + 1)), (0, .ref (ad mb)), (1, .int x), (2, .int y)]) hx hb dX13_ownsOne_33 hl (k := 0) rfl rfl (by decide) rfl (fun ls hl => ?_)
          refine lv_goto (tgt := 2) hx hb dX13_ownsOne_36 (by decide) ?_
          exact ih_2 (t2 + 1)  (by omega) (by omega) (by rw [← hB_2, show nc - (t2) = (nc - (t2 + 1)) + 1 by omega, s_X13_ownsOne_2, if_neg c_18]) ls (by rw [(show nI (t2 + 1) = nI t2 + 1 by exact nI_succ _)]; exact lv_sub hl [0, 1, 2, 3] rfl)
        · skip
          refine lv_aload_n hx hb dX13_ownsOne_21 rfl (lv_at hl 1 rfl) ?_
          refine q_get (v := .ref (ad (mb + 7))) (fs := modF ad mb mv) X hK hP fX13_ownsOne_53 h_mb m_mb rfl dX13_ownsOne_22 ?_
          refine lv_iload_n hx hb dX13_ownsOne_25 rfl (lv_at hl 0 rfl) ?_
          refine q_ialdN (f := ownerF) (k := 10) X hK hP t2 h_mb_7 m_mb_7 (by omega) (by decide) dX13_ownsOne_26 ?_
          refine lv_iload_n hx hb dX13_ownsOne_27 rfl (lv_at hl 2 rfl) ?_
          refine lv_icmp_ne (tgt := 33) hx hb dX13_ownsOne_28 (by decide) (fun c_28 => ?_) (fun c_28 => ?_)
          · skip
            refine lv_iinc (v := ((nI t2) + 1)) (lv' := [(3, .int ((nI t2) + 1)), (0, .ref (ad mb)), (1, .int x), (2, .int y)]) hx hb dX13_ownsOne_33 hl (k := 0) rfl rfl (by decide) rfl (fun ls hl => ?_)
            refine lv_goto (tgt := 2) hx hb dX13_ownsOne_36 (by decide) ?_
            exact ih_2 (t2 + 1)  (by omega) (by omega) (by rw [← hB_2, show nc - (t2) = (nc - (t2 + 1)) + 1 by omega, s_X13_ownsOne_2, if_pos c_18, if_neg c_28]) ls (by rw [(show nI (t2 + 1) = nI t2 + 1 by exact nI_succ _)]; exact lv_sub hl [0, 1, 2, 3] rfl)
          · skip
            refine lv_iconst (v := 1) hx hb dX13_ownsOne_31 (by decide) ?_
            exact q_zret X hr hlocks (rfl) (by rw [← hB_2, show nc - t2 = (nc - (t2 + 1)) + 1 by omega, s_X13_ownsOne_2, if_pos c_18, if_pos c_28]) dX13_ownsOne_32
  exact loop_2 (nc + 1) 0  (by omega) (by omega) (by rw [s_X13_ownsOne] <;> rfl) ls (lv_sub hl [0, 1, 2, 3] rfl)
set_option maxRecDepth 20000 in
theorem fX13_costBy_40 : FL wsX13_costBy RX13 40 12 3 := ⟨RX13, TX13, 67, rfl, by decide +kernel, by decide, by decide +kernel⟩
set_option maxRecDepth 20000 in
theorem fX13_costBy_331 : FL wsX13_costBy RX13 331 12 36 := ⟨RX13, TX13, 67, rfl, by decide +kernel, by decide, by decide +kernel⟩
set_option maxRecDepth 20000 in
theorem fX13_costBy_61 : FL wsX13_costBy RX13 61 12 10 := ⟨RX13, TX13, 67, rfl, by decide +kernel, by decide, by decide +kernel⟩
def s_X13_costBy_4s (mv : Nat → Int32) (costF : Nat → Int32) (x : Int32) (t4 : Nat) (x4_2 : Int32) : Int32 := if ((x >>> ((nI t4) &&& 31)) &&& 1) = 1 then if (((mv 36) >>> ((nI t4) &&& 31)) &&& 1) = 0 then (x4_2 + (costF t4)) else (x4_2 + 0) else (x4_2 + 0)
def s_X13_costBy_4 (mv : Nat → Int32) (costF : Nat → Int32) (x : Int32) (z0 : Int32) : Nat → Int32
  | 0 => z0
  | t + 1 => s_X13_costBy_4s mv costF x t (s_X13_costBy_4 mv costF x z0 t)
def s_X13_costBy (nc : Nat) (mv : Nat → Int32) (costF : Nat → Int32) (x : Int32) : Int32 := (s_X13_costBy_4 mv costF x 0 nc)
set_option maxHeartbeats 4000000 in
set_option maxRecDepth 100000 in
theorem c_X13_costBy (l : Launch) (D : va_G) (cB cI cJ : ClassId) (ad : Nat → Nat) (n : Nat) (M : Nat → va_E) (mb : Nat) (nt : Nat) (nc : Nat) (np : Nat) (nq : Nat) (mv : Nat → Int32) (toldF : Nat → Int32) (costF : Nat → Int32) (x : Int32) (h_mb : mb < n) (h_mb_3 : mb + 3 < n) (h_mb_10 : mb + 10 < n) (m_mb : M mb = .inr (12, modF ad mb mv)) (m_mb_3 : M (mb + 3) = .inl (cI, 14, .inl toldF)) (m_mb_10 : M (mb + 10) = .inl (cI, 10, .inl costF)) (k0 : toldF 0 = nI np) (hnp : np ≤ 4) (k1 : toldF 1 = nI nc) (hnc : nc ≤ 5) (k2 : toldF 2 = nI nt) (hnt : nt ≤ 12) (k3 : toldF 3 = nI nq) (hnq : nq ≤ 6) : cR l D cB cI cJ ad n M yX13_costBy wsX13_costBy 0 0 [.ref (ad mb), .int x] (s_X13_costBy nc mv costF x) := by
  refine q_body (cc := cX13_costBy) (maxL := 4) (ret := (some .int)) (by decide) rfl (Nat.le_of_ble_eq_true rfl) ?_
  intro p e s m args below meth c ls X hr hlocks hK hP hl
  obtain ⟨hx, hb, hml, hown, hts⟩ := id X
  have hS : va_S (ipA ad n) s.heap s.heap [] := va_S.rf
  have hl : lv_has ls 4 [(0, .ref (ad mb)), (1, .int x)] := hl
  refine lv_iconst (v := 0) hx hb dX13_costBy_0 (by decide) ?_
  refine lv_istore_n (lv' := [(2, .int 0), (0, .ref (ad mb)), (1, .int x)]) hx hb dX13_costBy_1 rfl hl (by decide) rfl (fun ls hl => ?_)
  refine lv_iconst (v := 0) hx hb dX13_costBy_2 (by decide) ?_
  refine lv_istore_n (lv' := [(3, .int 0), (2, .int 0), (0, .ref (ad mb)), (1, .int x)]) hx hb dX13_costBy_3 rfl hl (by decide) rfl (fun ls hl => ?_)
  have loop_4 : ∀ (fuel : Nat) (t4 : Nat) (x4_2 : Int32), nc - (t4) < fuel → t4 ≤ nc → x4_2 = (s_X13_costBy_4 mv costF x 0 t4) → ∀ (ls : Array Slot), lv_has ls 4 [(3, .int (nI t4)), (2, .int x4_2), (0, .ref (ad mb)), (1, .int x)] → W p l e (rmOf 0 0) s m args below meth c s.heap [] 0 0 (MQ below (vp_Si (fun r9 => r9 = s_X13_costBy nc mv costF x)) args s 0 0 (fun _ => False)) (F0 m 4 ls []) := by
    intro fuel
    induction fuel with
    | zero =>
      intro t4 x4_2 hz
      exact absurd hz (Nat.not_lt_zero _)
    | succ fuel ih_4 =>
      intro t4 x4_2 hz_4 h_t4 e_x4_2 ls hl
      skip
      refine lv_iload_n hx hb dX13_costBy_4 rfl (lv_at hl 0 rfl) ?_
      refine lv_aload_n hx hb dX13_costBy_5 rfl (lv_at hl 2 rfl) ?_
      refine q_get (v := .ref (ad (mb + 3))) (fs := modF ad mb mv) X hK hP fX13_costBy_40 h_mb m_mb rfl dX13_costBy_6 ?_
      refine lv_iconst (v := 1) hx hb dX13_costBy_9 (by decide) ?_
      refine q_ialdN (f := toldF) (k := 14) X hK hP 1 h_mb_3 m_mb_3 (by decide) (by decide) dX13_costBy_10 ?_
      refine lv_icmp_ge (tgt := 53) hx hb dX13_costBy_11 (by decide) (fun c_11 => ?_) (fun c_11 => ?_)
      · rw [k1] at c_11
        have h9_4 : t4 = nc := eq_of_le (t := t4) (k := nc) c_11 (by omega) h_t4
        subst t4
        subst e_x4_2
        refine lv_iload_n hx hb dX13_costBy_53 rfl (lv_at hl 1 rfl) ?_
        exact q_iret hb hx hr hlocks (by rfl) dX13_costBy_54
      · rw [k1] at c_11
        have h9_4 : t4 < nc := lt_of_nlt (t := t4) (k := nc) c_11 (by omega) h_t4
        refine lv_iload_n hx hb dX13_costBy_14 rfl (lv_at hl 1 rfl) ?_
        refine lv_iload_n hx hb dX13_costBy_15 rfl (lv_at hl 3 rfl) ?_
        refine lv_iload_n hx hb dX13_costBy_16 rfl (lv_at hl 0 rfl) ?_
        refine lv_ishr hx hb dX13_costBy_17 ?_
        refine lv_iconst (v := 1) hx hb dX13_costBy_18 (by decide) ?_
        refine lv_iand hx hb dX13_costBy_19 ?_
        refine lv_iconst (v := 1) hx hb dX13_costBy_20 (by decide) ?_
        refine lv_icmp_ne (tgt := 44) hx hb dX13_costBy_21 (by decide) (fun c_21 => ?_) (fun c_21 => ?_)
        · skip
          refine lv_iconst (v := 0) hx hb dX13_costBy_44 (by decide) ?_
          refine lv_iadd hx hb dX13_costBy_45 ?_
          refine lv_istore_n (lv' := [(2, .int (x4_2 + 0)), (3, .int (nI t4)), (0, .ref (ad mb)), (1, .int x)]) hx hb dX13_costBy_46 rfl hl (by decide) rfl (fun ls hl => ?_)
          refine lv_iinc (v := ((nI t4) + 1)) (lv' := [(3, .int ((nI t4) + 1)), (2, .int (x4_2 + 0)), (0, .ref (ad mb)), (1, .int x)]) hx hb dX13_costBy_47 hl (k := 1) rfl rfl (by decide) rfl (fun ls hl => ?_)
          refine lv_goto (tgt := 4) hx hb dX13_costBy_50 (by decide) ?_
          exact ih_4 (t4 + 1) (x4_2 + 0) (by omega) (by omega) (by rw [s_X13_costBy_4, ← e_x4_2, s_X13_costBy_4s, if_neg c_21]) ls (by rw [(show nI (t4 + 1) = nI t4 + 1 by exact nI_succ _)]; exact lv_sub hl [0, 1, 2, 3] rfl)
        · skip
          refine lv_aload_n hx hb dX13_costBy_24 rfl (lv_at hl 2 rfl) ?_
          refine q_get (v := .int (mv 36)) (fs := modF ad mb mv) X hK hP fX13_costBy_331 h_mb m_mb rfl dX13_costBy_25 ?_
          refine lv_iload_n hx hb dX13_costBy_28 rfl (lv_at hl 0 rfl) ?_
          refine lv_ishr hx hb dX13_costBy_29 ?_
          refine lv_iconst (v := 1) hx hb dX13_costBy_30 (by decide) ?_
          refine lv_iand hx hb dX13_costBy_31 ?_
          refine lv_if_ne (tgt := 44) hx hb dX13_costBy_32 (by decide) (fun c_32 => ?_) (fun c_32 => ?_)
          · skip
            refine lv_iconst (v := 0) hx hb dX13_costBy_44 (by decide) ?_
            refine lv_iadd hx hb dX13_costBy_45 ?_
            refine lv_istore_n (lv' := [(2, .int (x4_2 + 0)), (3, .int (nI t4)), (0, .ref (ad mb)), (1, .int x)]) hx hb dX13_costBy_46 rfl hl (by decide) rfl (fun ls hl => ?_)
            refine lv_iinc (v := ((nI t4) + 1)) (lv' := [(3, .int ((nI t4) + 1)), (2, .int (x4_2 + 0)), (0, .ref (ad mb)), (1, .int x)]) hx hb dX13_costBy_47 hl (k := 1) rfl rfl (by decide) rfl (fun ls hl => ?_)
            refine lv_goto (tgt := 4) hx hb dX13_costBy_50 (by decide) ?_
            exact ih_4 (t4 + 1) (x4_2 + 0) (by omega) (by omega) (by rw [s_X13_costBy_4, ← e_x4_2, s_X13_costBy_4s, if_pos c_21, if_neg c_32]) ls (by rw [(show nI (t4 + 1) = nI t4 + 1 by exact nI_succ _)]; exact lv_sub hl [0, 1, 2, 3] rfl)
          · skip
            refine lv_aload_n hx hb dX13_costBy_35 rfl (lv_at hl 2 rfl) ?_
            refine q_get (v := .ref (ad (mb + 10))) (fs := modF ad mb mv) X hK hP fX13_costBy_61 h_mb m_mb rfl dX13_costBy_36 ?_
            refine lv_iload_n hx hb dX13_costBy_39 rfl (lv_at hl 0 rfl) ?_
            refine q_ialdN (f := costF) (k := 10) X hK hP t4 h_mb_10 m_mb_10 (by omega) (by decide) dX13_costBy_40 ?_
            refine lv_goto (tgt := 45) hx hb dX13_costBy_41 (by decide) ?_
            refine lv_iadd hx hb dX13_costBy_45 ?_
            refine lv_istore_n (lv' := [(2, .int (x4_2 + (costF t4))), (3, .int (nI t4)), (0, .ref (ad mb)), (1, .int x)]) hx hb dX13_costBy_46 rfl hl (by decide) rfl (fun ls hl => ?_)
            refine lv_iinc (v := ((nI t4) + 1)) (lv' := [(3, .int ((nI t4) + 1)), (2, .int (x4_2 + (costF t4))), (0, .ref (ad mb)), (1, .int x)]) hx hb dX13_costBy_47 hl (k := 1) rfl rfl (by decide) rfl (fun ls hl => ?_)
            refine lv_goto (tgt := 4) hx hb dX13_costBy_50 (by decide) ?_
            exact ih_4 (t4 + 1) (x4_2 + (costF t4)) (by omega) (by omega) (by rw [s_X13_costBy_4, ← e_x4_2, s_X13_costBy_4s, if_pos c_21, if_pos c_32]) ls (by rw [(show nI (t4 + 1) = nI t4 + 1 by exact nI_succ _)]; exact lv_sub hl [0, 1, 2, 3] rfl)
  exact loop_4 (nc + 1) 0 0 (by omega) (by omega) (by rfl) ls (lv_sub hl [0, 1, 2, 3] rfl)
set_option maxRecDepth 20000 in
theorem fX13_othersGo_40 : FL wsX13_othersGo RX13 40 12 3 := ⟨RX13, TX13, 67, rfl, by decide +kernel, by decide, by decide +kernel⟩
def s_X13_othersGo_2 (nt : Nat) (limitF : Nat → Int32) (kindF : Nat → Int32) (heavyF : Nat → Int32) (wideF : Nat → Int32) (hotF : Nat → Int32) (placeF : Nat → Int32) (x : Int32) : Nat → Nat → Int32
  | 0, _ => 1
  | r + 1, t2 => if ((x >>> ((nI t2) &&& 31)) &&& 1) = 0 then if (s_X13_overOf nt limitF kindF heavyF wideF hotF placeF (nI t2)) ≤ 0 then s_X13_othersGo_2 nt limitF kindF heavyF wideF hotF placeF x r (t2 + 1) else 0 else s_X13_othersGo_2 nt limitF kindF heavyF wideF hotF placeF x r (t2 + 1)
def s_X13_othersGo (nt : Nat) (nc : Nat) (limitF : Nat → Int32) (kindF : Nat → Int32) (heavyF : Nat → Int32) (wideF : Nat → Int32) (hotF : Nat → Int32) (placeF : Nat → Int32) (x : Int32) : Int32 := (s_X13_othersGo_2 nt limitF kindF heavyF wideF hotF placeF x nc 0)
set_option maxHeartbeats 4000000 in
set_option maxRecDepth 100000 in
theorem c_X13_othersGo (l : Launch) (D : va_G) (cB cI cJ : ClassId) (ad : Nat → Nat) (n : Nat) (M : Nat → va_E) (mb : Nat) (nt : Nat) (nc : Nat) (np : Nat) (nq : Nat) (mv : Nat → Int32) (toldF : Nat → Int32) (limitF : Nat → Int32) (kindF : Nat → Int32) (heavyF : Nat → Int32) (wideF : Nat → Int32) (hotF : Nat → Int32) (placeF : Nat → Int32) (x : Int32) (h_mb : mb < n) (h_mb_3 : mb + 3 < n) (h_mb_8 : mb + 8 < n) (h_mb_12 : mb + 12 < n) (h_mb_13 : mb + 13 < n) (h_mb_15 : mb + 15 < n) (h_mb_17 : mb + 17 < n) (h_mb_18 : mb + 18 < n) (m_mb : M mb = .inr (12, modF ad mb mv)) (m_mb_3 : M (mb + 3) = .inl (cI, 14, .inl toldF)) (m_mb_8 : M (mb + 8) = .inl (cI, 10, .inl limitF)) (m_mb_12 : M (mb + 12) = .inl (cI, 24, .inl kindF)) (m_mb_13 : M (mb + 13) = .inl (cI, 24, .inl heavyF)) (m_mb_15 : M (mb + 15) = .inl (cI, 24, .inl wideF)) (m_mb_17 : M (mb + 17) = .inl (cI, 24, .inl hotF)) (m_mb_18 : M (mb + 18) = .inl (cI, 24, .inl placeF)) (k0 : toldF 0 = nI np) (hnp : np ≤ 4) (k1 : toldF 1 = nI nc) (hnc : nc ≤ 5) (k2 : toldF 2 = nI nt) (hnt : nt ≤ 12) (k3 : toldF 3 = nI nq) (hnq : nq ≤ 6) : cR l D cB cI cJ ad n M yX13_othersGo wsX13_othersGo 2 46 [.ref (ad mb), .int x] (s_X13_othersGo nt nc limitF kindF heavyF wideF hotF placeF x) := by
  refine q_body (cc := cX13_othersGo) (maxL := 3) (ret := (some .boolean)) (by decide) rfl (Nat.le_of_ble_eq_true rfl) ?_
  intro p e s m args below meth c ls X hr hlocks hK hP hl
  obtain ⟨hx, hb, hml, hown, hts⟩ := id X
  have hS : va_S (ipA ad n) s.heap s.heap [] := va_S.rf
  have hl : lv_has ls 3 [(0, .ref (ad mb)), (1, .int x)] := hl
  refine lv_iconst (v := 0) hx hb dX13_othersGo_0 (by decide) ?_
  refine lv_istore_n (lv' := [(2, .int 0), (0, .ref (ad mb)), (1, .int x)]) hx hb dX13_othersGo_1 rfl hl (by decide) rfl (fun ls hl => ?_)
  have loop_2 : ∀ (fuel : Nat) (t2 : Nat), nc - (t2) < fuel → t2 ≤ nc → s_X13_othersGo_2 nt limitF kindF heavyF wideF hotF placeF x (nc - (t2)) t2 = s_X13_othersGo nt nc limitF kindF heavyF wideF hotF placeF x → ∀ (ls : Array Slot), lv_has ls 3 [(2, .int (nI t2)), (0, .ref (ad mb)), (1, .int x)] → W p l e (rmOf 2 46) s m args below meth c s.heap [] 0 0 (MQ below (vp_Si (fun r9 => r9 = s_X13_othersGo nt nc limitF kindF heavyF wideF hotF placeF x)) args s 0 0 (fun _ => False)) (F0 m 2 ls []) := by
    intro fuel
    induction fuel with
    | zero =>
      intro t2 hz
      exact absurd hz (Nat.not_lt_zero _)
    | succ fuel ih_2 =>
      intro t2 hz_2 h_t2 hB_2 ls hl
      skip
      refine lv_iload_n hx hb dX13_othersGo_2 rfl (lv_at hl 0 rfl) ?_
      refine lv_aload_n hx hb dX13_othersGo_3 rfl (lv_at hl 1 rfl) ?_
      refine q_get (v := .ref (ad (mb + 3))) (fs := modF ad mb mv) X hK hP fX13_othersGo_40 h_mb m_mb rfl dX13_othersGo_4 ?_
      refine lv_iconst (v := 1) hx hb dX13_othersGo_7 (by decide) ?_
      refine q_ialdN (f := toldF) (k := 14) X hK hP 1 h_mb_3 m_mb_3 (by decide) (by decide) dX13_othersGo_8 ?_
      refine lv_icmp_ge (tgt := 36) hx hb dX13_othersGo_9 (by decide) (fun c_9 => ?_) (fun c_9 => ?_)
      · rw [k1] at c_9
        have h9_2 : t2 = nc := eq_of_le (t := t2) (k := nc) c_9 (by omega) h_t2
        subst t2
        refine lv_iconst (v := 1) hx hb dX13_othersGo_36 (by decide) ?_
        exact q_zret X hr hlocks (rfl) (by rw [← hB_2, Nat.sub_self, s_X13_othersGo_2]) dX13_othersGo_37
      · rw [k1] at c_9
        have h9_2 : t2 < nc := lt_of_nlt (t := t2) (k := nc) c_9 (by omega) h_t2
        refine lv_iload_n hx hb dX13_othersGo_12 rfl (lv_at hl 2 rfl) ?_
        refine lv_iload_n hx hb dX13_othersGo_13 rfl (lv_at hl 0 rfl) ?_
        refine lv_ishr hx hb dX13_othersGo_14 ?_
        refine lv_iconst (v := 1) hx hb dX13_othersGo_15 (by decide) ?_
        refine lv_iand hx hb dX13_othersGo_16 ?_
        refine lv_if_ne (tgt := 30) hx hb dX13_othersGo_17 (by decide) (fun c_17 => ?_) (fun c_17 => ?_)
        · skip
          refine lv_iinc (v := ((nI t2) + 1)) (lv' := [(2, .int ((nI t2) + 1)), (0, .ref (ad mb)), (1, .int x)]) hx hb dX13_othersGo_30 hl (k := 0) rfl rfl (by decide) rfl (fun ls hl => ?_)
          refine lv_goto (tgt := 2) hx hb dX13_othersGo_33 (by decide) ?_
          exact ih_2 (t2 + 1)  (by omega) (by omega) (by rw [← hB_2, show nc - (t2) = (nc - (t2 + 1)) + 1 by omega, s_X13_othersGo_2, if_neg c_17]) ls (by rw [(show nI (t2 + 1) = nI t2 + 1 by exact nI_succ _)]; exact lv_sub hl [0, 1, 2] rfl)
        · skip
          refine lv_aload_n hx hb dX13_othersGo_20 rfl (lv_at hl 1 rfl) ?_
          refine lv_iload_n hx hb dX13_othersGo_21 rfl (lv_at hl 0 rfl) ?_
          refine q_rdV (As := [.int (nI t2)]) (rest := []) (c_X13_overOf l D cB cI cJ ad n M mb nt nc np nq mv toldF limitF kindF heavyF wideF hotF placeF (nI t2) h_mb h_mb_3 h_mb_8 h_mb_12 h_mb_13 h_mb_15 h_mb_17 h_mb_18 m_mb m_mb_3 m_mb_8 m_mb_12 m_mb_13 m_mb_15 m_mb_17 m_mb_18 k0 hnp k1 hnc k2 hnt k3 hnq (by first | assumption | omega | exact vp_in_nI (by omega) (by decide) | exact vp_in_iff.mpr (by decide))) X hK hP hS hl.1 rfl gX13_othersGo_X13_overOf yd_X13_overOf ⟨Nat.le_of_ble_eq_true rfl, Nat.le_of_ble_eq_true rfl⟩ h_mb m_mb (ci := 12) rfl rfl (Nat.le_of_ble_eq_true rfl) ⟨Nat.zero_le _, Nat.zero_le _⟩ dX13_othersGo_22 ?_
          refine lv_if_le (tgt := 30) hx hb dX13_othersGo_25 (by decide) (fun c_25 => ?_) (fun c_25 => ?_)
          · skip
            refine lv_iinc (v := ((nI t2) + 1)) (lv' := [(2, .int ((nI t2) + 1)), (0, .ref (ad mb)), (1, .int x)]) hx hb dX13_othersGo_30 hl (k := 0) rfl rfl (by decide) rfl (fun ls hl => ?_)
            refine lv_goto (tgt := 2) hx hb dX13_othersGo_33 (by decide) ?_
            exact ih_2 (t2 + 1)  (by omega) (by omega) (by rw [← hB_2, show nc - (t2) = (nc - (t2 + 1)) + 1 by omega, s_X13_othersGo_2, if_pos c_17, if_pos c_25]) ls (by rw [(show nI (t2 + 1) = nI t2 + 1 by exact nI_succ _)]; exact lv_sub hl [0, 1, 2] rfl)
          · skip
            refine lv_iconst (v := 0) hx hb dX13_othersGo_28 (by decide) ?_
            exact q_zret X hr hlocks (rfl) (by rw [← hB_2, show nc - t2 = (nc - (t2 + 1)) + 1 by omega, s_X13_othersGo_2, if_pos c_17, if_neg c_25]) dX13_othersGo_29
  exact loop_2 (nc + 1) 0  (by omega) (by omega) (by rw [s_X13_othersGo] <;> rfl) ls (lv_sub hl [0, 1, 2] rfl)
set_option maxRecDepth 20000 in
theorem fX13_isRight_40 : FL wsX13_isRight RX13 40 12 3 := ⟨RX13, TX13, 67, rfl, by decide +kernel, by decide, by decide +kernel⟩
set_option maxRecDepth 20000 in
theorem fX13_isRight_69 : FL wsX13_isRight RX13 69 12 13 := ⟨RX13, TX13, 67, rfl, by decide +kernel, by decide, by decide +kernel⟩
set_option maxRecDepth 20000 in
theorem fX13_isRight_75 : FL wsX13_isRight RX13 75 12 15 := ⟨RX13, TX13, 67, rfl, by decide +kernel, by decide, by decide +kernel⟩
set_option maxRecDepth 20000 in
theorem fX13_isRight_66 : FL wsX13_isRight RX13 66 12 12 := ⟨RX13, TX13, 67, rfl, by decide +kernel, by decide, by decide +kernel⟩
set_option maxRecDepth 20000 in
theorem fX13_isRight_64 : FL wsX13_isRight RX13 64 12 11 := ⟨RX13, TX13, 67, rfl, by decide +kernel, by decide, by decide +kernel⟩
set_option maxRecDepth 20000 in
theorem fX13_isRight_56 : FL wsX13_isRight RX13 56 12 8 := ⟨RX13, TX13, 67, rfl, by decide +kernel, by decide, by decide +kernel⟩
set_option maxRecDepth 20000 in
theorem fX13_isRight_58 : FL wsX13_isRight RX13 58 12 9 := ⟨RX13, TX13, 67, rfl, by decide +kernel, by decide, by decide +kernel⟩
def s_X13_isRight_8 (limitF : Nat → Int32) (holdsF : Nat → Int32) (boardF : Nat → Int32) (kindF : Nat → Int32) (heavyF : Nat → Int32) (wideF : Nat → Int32) (x : Int32) (y : Int32) : Nat → Nat → Int32 → Int32 → Int32
  | 0, _, x8_4, x8_3 => if (limitF x.toNatClampNeg) < x8_3 then 0 else if (holdsF x.toNatClampNeg) < x8_4 then 0 else 1
  | r + 1, t8, x8_4, x8_3 => if ((y >>> ((nI t8) &&& 31)) &&& 1) = 0 then s_X13_isRight_8 limitF holdsF boardF kindF heavyF wideF x y r (t8 + 1) x8_4 x8_3 else if (kindF t8) = 2 then if (boardF x.toNatClampNeg) = 1 then 0 else s_X13_isRight_8 limitF holdsF boardF kindF heavyF wideF x y r (t8 + 1) (x8_4 + (wideF t8)) (x8_3 + (heavyF t8)) else s_X13_isRight_8 limitF holdsF boardF kindF heavyF wideF x y r (t8 + 1) (x8_4 + (wideF t8)) (x8_3 + (heavyF t8))
def s_X13_isRight (nt : Nat) (limitF : Nat → Int32) (holdsF : Nat → Int32) (boardF : Nat → Int32) (kindF : Nat → Int32) (heavyF : Nat → Int32) (wideF : Nat → Int32) (x : Int32) (y : Int32) : Int32 := (s_X13_isRight_8 limitF holdsF boardF kindF heavyF wideF x y nt 0 0 0)
set_option maxHeartbeats 4000000 in
set_option maxRecDepth 100000 in
theorem c_X13_isRight (l : Launch) (D : va_G) (cB cI cJ : ClassId) (ad : Nat → Nat) (n : Nat) (M : Nat → va_E) (mb : Nat) (nt : Nat) (nc : Nat) (np : Nat) (nq : Nat) (mv : Nat → Int32) (toldF : Nat → Int32) (limitF : Nat → Int32) (holdsF : Nat → Int32) (boardF : Nat → Int32) (kindF : Nat → Int32) (heavyF : Nat → Int32) (wideF : Nat → Int32) (x : Int32) (y : Int32) (h_mb : mb < n) (h_mb_3 : mb + 3 < n) (h_mb_8 : mb + 8 < n) (h_mb_9 : mb + 9 < n) (h_mb_11 : mb + 11 < n) (h_mb_12 : mb + 12 < n) (h_mb_13 : mb + 13 < n) (h_mb_15 : mb + 15 < n) (m_mb : M mb = .inr (12, modF ad mb mv)) (m_mb_3 : M (mb + 3) = .inl (cI, 14, .inl toldF)) (m_mb_8 : M (mb + 8) = .inl (cI, 10, .inl limitF)) (m_mb_9 : M (mb + 9) = .inl (cI, 10, .inl holdsF)) (m_mb_11 : M (mb + 11) = .inl (cI, 10, .inl boardF)) (m_mb_12 : M (mb + 12) = .inl (cI, 24, .inl kindF)) (m_mb_13 : M (mb + 13) = .inl (cI, 24, .inl heavyF)) (m_mb_15 : M (mb + 15) = .inl (cI, 24, .inl wideF)) (k0 : toldF 0 = nI np) (hnp : np ≤ 4) (k1 : toldF 1 = nI nc) (hnc : nc ≤ 5) (k2 : toldF 2 = nI nt) (hnt : nt ≤ 12) (k3 : toldF 3 = nI nq) (hnq : nq ≤ 6) (vx : vp_in x 10) : cR l D cB cI cJ ad n M yX13_isRight wsX13_isRight 0 0 [.ref (ad mb), .int x, .int y] (s_X13_isRight nt limitF holdsF boardF kindF heavyF wideF x y) := by
  refine q_body (cc := cX13_isRight) (maxL := 6) (ret := (some .boolean)) (by decide) rfl (Nat.le_of_ble_eq_true rfl) ?_
  intro p e s m args below meth c ls X hr hlocks hK hP hl
  obtain ⟨hx, hb, hml, hown, hts⟩ := id X
  have hS : va_S (ipA ad n) s.heap s.heap [] := va_S.rf
  have hl : lv_has ls 6 [(0, .ref (ad mb)), (1, .int x), (2, .int y)] := hl
  refine lv_iconst (v := 0) hx hb dX13_isRight_0 (by decide) ?_
  refine lv_istore_n (lv' := [(3, .int 0), (0, .ref (ad mb)), (1, .int x), (2, .int y)]) hx hb dX13_isRight_1 rfl hl (by decide) rfl (fun ls hl => ?_)
  refine lv_iconst (v := 0) hx hb dX13_isRight_2 (by decide) ?_
  refine lv_istore (lv' := [(4, .int 0), (3, .int 0), (0, .ref (ad mb)), (1, .int x), (2, .int y)]) hx hb dX13_isRight_3 hl (by decide) rfl (fun ls hl => ?_)
  refine lv_iconst (v := 0) hx hb dX13_isRight_5 (by decide) ?_
  refine lv_istore (lv' := [(5, .int 0), (4, .int 0), (3, .int 0), (0, .ref (ad mb)), (1, .int x), (2, .int y)]) hx hb dX13_isRight_6 hl (by decide) rfl (fun ls hl => ?_)
  have loop_8 : ∀ (fuel : Nat) (t8 : Nat) (x8_4 : Int32) (x8_3 : Int32), nt - (t8) < fuel → t8 ≤ nt → s_X13_isRight_8 limitF holdsF boardF kindF heavyF wideF x y (nt - (t8)) t8 x8_4 x8_3 = s_X13_isRight nt limitF holdsF boardF kindF heavyF wideF x y → ∀ (ls : Array Slot), lv_has ls 6 [(5, .int (nI t8)), (4, .int x8_4), (3, .int x8_3), (0, .ref (ad mb)), (1, .int x), (2, .int y)] → W p l e (rmOf 0 0) s m args below meth c s.heap [] 0 0 (MQ below (vp_Si (fun r9 => r9 = s_X13_isRight nt limitF holdsF boardF kindF heavyF wideF x y)) args s 0 0 (fun _ => False)) (F0 m 8 ls []) := by
    intro fuel
    induction fuel with
    | zero =>
      intro t8 x8_4 x8_3 hz
      exact absurd hz (Nat.not_lt_zero _)
    | succ fuel ih_8 =>
      intro t8 x8_4 x8_3 hz_8 h_t8 hB_8 ls hl
      skip
      refine lv_iload hx hb dX13_isRight_8 (lv_at hl 0 rfl) ?_
      refine lv_aload_n hx hb dX13_isRight_10 rfl (lv_at hl 3 rfl) ?_
      refine q_get (v := .ref (ad (mb + 3))) (fs := modF ad mb mv) X hK hP fX13_isRight_40 h_mb m_mb rfl dX13_isRight_11 ?_
      refine lv_iconst (v := 2) hx hb dX13_isRight_14 (by decide) ?_
      refine q_ialdN (f := toldF) (k := 14) X hK hP 2 h_mb_3 m_mb_3 (by decide) (by decide) dX13_isRight_15 ?_
      refine lv_icmp_ge (tgt := 82) hx hb dX13_isRight_16 (by decide) (fun c_16 => ?_) (fun c_16 => ?_)
      · rw [k2] at c_16
        have h9_8 : t8 = nt := eq_of_le (t := t8) (k := nt) c_16 (by omega) h_t8
        subst t8
        refine lv_iload_n hx hb dX13_isRight_82 rfl (lv_at hl 2 rfl) ?_
        refine lv_aload_n hx hb dX13_isRight_83 rfl (lv_at hl 3 rfl) ?_
        refine q_get (v := .ref (ad (mb + 8))) (fs := modF ad mb mv) X hK hP fX13_isRight_56 h_mb m_mb rfl dX13_isRight_84 ?_
        refine lv_iload_n hx hb dX13_isRight_87 rfl (lv_at hl 4 rfl) ?_
        refine q_iald (f := limitF) (k := 10) X hK hP h_mb_8 m_mb_8 (by assumption) dX13_isRight_88 ?_
        refine lv_icmp_gt (tgt := 107) hx hb dX13_isRight_89 (by decide) (fun c_89 => ?_) (fun c_89 => ?_)
        · skip
          refine lv_iconst (v := 0) hx hb dX13_isRight_107 (by decide) ?_
          exact q_zret X hr hlocks (rfl) (by rw [← hB_8, Nat.sub_self, s_X13_isRight_8, if_pos c_89]) dX13_isRight_108
        · skip
          refine lv_iload hx hb dX13_isRight_92 (lv_at hl 1 rfl) ?_
          refine lv_aload_n hx hb dX13_isRight_94 rfl (lv_at hl 3 rfl) ?_
          refine q_get (v := .ref (ad (mb + 9))) (fs := modF ad mb mv) X hK hP fX13_isRight_58 h_mb m_mb rfl dX13_isRight_95 ?_
          refine lv_iload_n hx hb dX13_isRight_98 rfl (lv_at hl 4 rfl) ?_
          refine q_iald (f := holdsF) (k := 10) X hK hP h_mb_9 m_mb_9 (by assumption) dX13_isRight_99 ?_
          refine lv_icmp_gt (tgt := 107) hx hb dX13_isRight_100 (by decide) (fun c_100 => ?_) (fun c_100 => ?_)
          · skip
            refine lv_iconst (v := 0) hx hb dX13_isRight_107 (by decide) ?_
            exact q_zret X hr hlocks (rfl) (by rw [← hB_8, Nat.sub_self, s_X13_isRight_8, if_neg c_89, if_pos c_100]) dX13_isRight_108
          · skip
            refine lv_iconst (v := 1) hx hb dX13_isRight_103 (by decide) ?_
            refine lv_goto (tgt := 108) hx hb dX13_isRight_104 (by decide) ?_
            exact q_zret X hr hlocks (rfl) (by rw [← hB_8, Nat.sub_self, s_X13_isRight_8, if_neg c_89, if_neg c_100]) dX13_isRight_108
      · rw [k2] at c_16
        have h9_8 : t8 < nt := lt_of_nlt (t := t8) (k := nt) c_16 (by omega) h_t8
        refine lv_iload_n hx hb dX13_isRight_19 rfl (lv_at hl 5 rfl) ?_
        refine lv_iload hx hb dX13_isRight_20 (lv_at hl 0 rfl) ?_
        refine lv_ishr hx hb dX13_isRight_22 ?_
        refine lv_iconst (v := 1) hx hb dX13_isRight_23 (by decide) ?_
        refine lv_iand hx hb dX13_isRight_24 ?_
        refine lv_if_ne (tgt := 31) hx hb dX13_isRight_25 (by decide) (fun c_25 => ?_) (fun c_25 => ?_)
        · skip
          refine lv_iload_n hx hb dX13_isRight_31 rfl (lv_at hl 2 rfl) ?_
          refine lv_aload_n hx hb dX13_isRight_32 rfl (lv_at hl 3 rfl) ?_
          refine q_get (v := .ref (ad (mb + 13))) (fs := modF ad mb mv) X hK hP fX13_isRight_69 h_mb m_mb rfl dX13_isRight_33 ?_
          refine lv_iload hx hb dX13_isRight_36 (lv_at hl 0 rfl) ?_
          refine q_ialdN (f := heavyF) (k := 24) X hK hP t8 h_mb_13 m_mb_13 (by omega) (by decide) dX13_isRight_38 ?_
          refine lv_iadd hx hb dX13_isRight_39 ?_
          refine lv_istore_n (lv' := [(3, .int (x8_3 + (heavyF t8))), (5, .int (nI t8)), (4, .int x8_4), (0, .ref (ad mb)), (1, .int x), (2, .int y)]) hx hb dX13_isRight_40 rfl hl (by decide) rfl (fun ls hl => ?_)
          refine lv_iload hx hb dX13_isRight_41 (lv_at hl 2 rfl) ?_
          refine lv_aload_n hx hb dX13_isRight_43 rfl (lv_at hl 3 rfl) ?_
          refine q_get (v := .ref (ad (mb + 15))) (fs := modF ad mb mv) X hK hP fX13_isRight_75 h_mb m_mb rfl dX13_isRight_44 ?_
          refine lv_iload hx hb dX13_isRight_47 (lv_at hl 1 rfl) ?_
          refine q_ialdN (f := wideF) (k := 24) X hK hP t8 h_mb_15 m_mb_15 (by omega) (by decide) dX13_isRight_49 ?_
          refine lv_iadd hx hb dX13_isRight_50 ?_
          refine lv_istore (lv' := [(4, .int (x8_4 + (wideF t8))), (3, .int (x8_3 + (heavyF t8))), (5, .int (nI t8)), (0, .ref (ad mb)), (1, .int x), (2, .int y)]) hx hb dX13_isRight_51 hl (by decide) rfl (fun ls hl => ?_)
          refine lv_aload_n hx hb dX13_isRight_53 rfl (lv_at hl 3 rfl) ?_
          refine q_get (v := .ref (ad (mb + 12))) (fs := modF ad mb mv) X hK hP fX13_isRight_66 h_mb m_mb rfl dX13_isRight_54 ?_
          refine lv_iload hx hb dX13_isRight_57 (lv_at hl 2 rfl) ?_
          refine q_ialdN (f := kindF) (k := 24) X hK hP t8 h_mb_12 m_mb_12 (by omega) (by decide) dX13_isRight_59 ?_
          refine lv_iconst (v := 2) hx hb dX13_isRight_60 (by decide) ?_
          refine lv_icmp_ne (tgt := 76) hx hb dX13_isRight_61 (by decide) (fun c_61 => ?_) (fun c_61 => ?_)
          · skip
            refine lv_iinc (v := ((nI t8) + 1)) (lv' := [(5, .int ((nI t8) + 1)), (4, .int (x8_4 + (wideF t8))), (3, .int (x8_3 + (heavyF t8))), (0, .ref (ad mb)), (1, .int x), (2, .int y)]) hx hb dX13_isRight_76 hl (k := 2) rfl rfl (by decide) rfl (fun ls hl => ?_)
            refine lv_goto (tgt := 8) hx hb dX13_isRight_79 (by decide) ?_
            exact ih_8 (t8 + 1) (x8_4 + (wideF t8)) (x8_3 + (heavyF t8)) (by omega) (by omega) (by rw [← hB_8, show nt - (t8) = (nt - (t8 + 1)) + 1 by omega, s_X13_isRight_8, if_neg c_25, if_neg c_61]) ls (by rw [(show nI (t8 + 1) = nI t8 + 1 by exact nI_succ _)]; exact lv_sub hl [0, 1, 2, 3, 4, 5] rfl)
          · skip
            refine lv_aload_n hx hb dX13_isRight_64 rfl (lv_at hl 3 rfl) ?_
            refine q_get (v := .ref (ad (mb + 11))) (fs := modF ad mb mv) X hK hP fX13_isRight_64 h_mb m_mb rfl dX13_isRight_65 ?_
            refine lv_iload_n hx hb dX13_isRight_68 rfl (lv_at hl 4 rfl) ?_
            refine q_iald (f := boardF) (k := 10) X hK hP h_mb_11 m_mb_11 (by assumption) dX13_isRight_69 ?_
            refine lv_iconst (v := 1) hx hb dX13_isRight_70 (by decide) ?_
            refine lv_icmp_ne (tgt := 76) hx hb dX13_isRight_71 (by decide) (fun c_71 => ?_) (fun c_71 => ?_)
            · skip
              refine lv_iinc (v := ((nI t8) + 1)) (lv' := [(5, .int ((nI t8) + 1)), (4, .int (x8_4 + (wideF t8))), (3, .int (x8_3 + (heavyF t8))), (0, .ref (ad mb)), (1, .int x), (2, .int y)]) hx hb dX13_isRight_76 hl (k := 2) rfl rfl (by decide) rfl (fun ls hl => ?_)
              refine lv_goto (tgt := 8) hx hb dX13_isRight_79 (by decide) ?_
              exact ih_8 (t8 + 1) (x8_4 + (wideF t8)) (x8_3 + (heavyF t8)) (by omega) (by omega) (by rw [← hB_8, show nt - (t8) = (nt - (t8 + 1)) + 1 by omega, s_X13_isRight_8, if_neg c_25, if_pos c_61, if_neg c_71]) ls (by rw [(show nI (t8 + 1) = nI t8 + 1 by exact nI_succ _)]; exact lv_sub hl [0, 1, 2, 3, 4, 5] rfl)
            · skip
              refine lv_iconst (v := 0) hx hb dX13_isRight_74 (by decide) ?_
              exact q_zret X hr hlocks (rfl) (by rw [← hB_8, show nt - t8 = (nt - (t8 + 1)) + 1 by omega, s_X13_isRight_8, if_neg c_25, if_pos c_61, if_pos c_71]) dX13_isRight_75
        · skip
          refine lv_goto (tgt := 76) hx hb dX13_isRight_28 (by decide) ?_
          refine lv_iinc (v := ((nI t8) + 1)) (lv' := [(5, .int ((nI t8) + 1)), (4, .int x8_4), (3, .int x8_3), (0, .ref (ad mb)), (1, .int x), (2, .int y)]) hx hb dX13_isRight_76 hl (k := 0) rfl rfl (by decide) rfl (fun ls hl => ?_)
          refine lv_goto (tgt := 8) hx hb dX13_isRight_79 (by decide) ?_
          exact ih_8 (t8 + 1) x8_4 x8_3 (by omega) (by omega) (by rw [← hB_8, show nt - (t8) = (nt - (t8 + 1)) + 1 by omega, s_X13_isRight_8, if_pos c_25]) ls (by rw [(show nI (t8 + 1) = nI t8 + 1 by exact nI_succ _)]; exact lv_sub hl [0, 1, 2, 3, 4, 5] rfl)
  exact loop_8 (nt + 1) 0 0 0 (by omega) (by omega) (by rw [s_X13_isRight] <;> rfl) ls (lv_sub hl [0, 1, 2, 3, 4, 5] rfl)
set_option maxRecDepth 20000 in
theorem fX13_refuse_96 : FL wsX13_refuse RX13 96 12 22 := ⟨RX13, TX13, 67, rfl, by decide +kernel, by decide, by decide +kernel⟩
def s_X13_refuse : Int32 := (-1)
set_option maxHeartbeats 4000000 in
set_option maxRecDepth 100000 in
theorem c_X13_refuse (l : Launch) (D : va_G) (cB cI cJ : ClassId) (ad : Nat → Nat) (n : Nat) (M : Nat → va_E) (hI : ipI ad n) (mb : Nat) (mv : Nat → Int32) (statusF : Nat → Int32) (x : Int32) (h_mb : mb < n) (h_mb_22 : mb + 22 < n) (m_mb : M mb = .inr (12, modF ad mb mv)) (m_mb_22 : M (mb + 22) = .inl (cI, 3, .inl statusF)) (vx : vp_in x 3) : cWi l D cB cI cJ ad n M yX13_refuse wsX13_refuse 0 0 [.ref (ad mb), .int x] (fun r M' => r = s_X13_refuse ∧ M' (mb + 22) = .inl (cI, 3, .inl (upd statusF x.toNatClampNeg ((statusF x.toNatClampNeg) + 1))) ∧ ∀ q : Nat, q ≠ mb + 22 → M' q = M q) := by
  refine q_body (cc := cX13_refuse) (maxL := 2) (ret := (some .int)) (by decide) rfl (Nat.le_of_ble_eq_true rfl) ?_
  intro p e s m args below meth c ls X hr hlocks hK hP hl
  obtain ⟨hx, hb, hml, hown, hts⟩ := id X
  have hS : va_S (ipA ad n) s.heap s.heap [] := va_S.rf
  have hl : lv_has ls 2 [(0, .ref (ad mb)), (1, .int x)] := hl
  refine lv_aload_n hx hb dX13_refuse_0 rfl (lv_at hl 0 rfl) ?_
  refine q_get (v := .ref (ad (mb + 22))) (fs := modF ad mb mv) X hK hP fX13_refuse_96 h_mb m_mb rfl dX13_refuse_1 ?_
  refine lv_iload_n hx hb dX13_refuse_4 rfl (lv_at hl 1 rfl) ?_
  refine lv_dup2_11 hx hb dX13_refuse_5 rfl rfl ?_
  refine q_iald (f := statusF) (k := 3) X hK hP h_mb_22 m_mb_22 (by assumption) dX13_refuse_6 ?_
  refine lv_iconst (v := 1) hx hb dX13_refuse_7 (by decide) ?_
  refine lv_iadd hx hb dX13_refuse_8 ?_
  refine q_iast (f := statusF) (k := 3) X hK hI hP hS h_mb_22 m_mb_22 (by assumption) dX13_refuse_9 (fun H locs hP hS => ?_)
  refine lv_iconst (v := (-1)) hx hb dX13_refuse_10 (by decide) ?_
  exact q_wzret X hr hlocks hP hS (rfl) ⟨(by rfl), (va_up_self M (mb + 22) (.inl (cI, 3, .inl (upd statusF x.toNatClampNeg ((statusF x.toNatClampNeg) + 1))))), (fun q n0 => (va_up_ne _ _ n0))⟩ dX13_refuse_11
set_option maxRecDepth 20000 in
theorem fX13_wrong_222 : FL wsX13_wrong RX13 222 12 31 := ⟨RX13, TX13, 67, rfl, by decide +kernel, by decide, by decide +kernel⟩
theorem fw_12_31 : FW 12 31 .int := ⟨RX13, TX13, 67, tyX13, rfl, tyX13_ok, nmX13, by decide, rfl, by decide +kernel⟩
set_option maxRecDepth 20000 in
theorem fX13_wrong_193 : FL wsX13_wrong RX13 193 12 29 := ⟨RX13, TX13, 67, rfl, by decide +kernel, by decide, by decide +kernel⟩
set_option maxRecDepth 20000 in
theorem fX13_wrong_225 : FL wsX13_wrong RX13 225 12 32 := ⟨RX13, TX13, 67, rfl, by decide +kernel, by decide, by decide +kernel⟩
theorem fw_12_32 : FW 12 32 .int := ⟨RX13, TX13, 67, tyX13, rfl, tyX13_ok, nmX13, by decide, rfl, by decide +kernel⟩
def s_X13_wrong_0_1 (mv : Nat → Int32) (x : Int32) : Nat → Int32 := if (mv 31) = 0 then (upd (upd mv 31 x) 32 (mv 29)) else mv
set_option maxHeartbeats 4000000 in
set_option maxRecDepth 100000 in
theorem c_X13_wrong (l : Launch) (D : va_G) (cB cI cJ : ClassId) (ad : Nat → Nat) (n : Nat) (M : Nat → va_E) (hI : ipI ad n) (mb : Nat) (mv : Nat → Int32) (x : Int32) (h_mb : mb < n) (m_mb : M mb = .inr (12, modF ad mb mv))  : cWv l D cB cI cJ ad n M yX13_wrong wsX13_wrong 0 0 [.ref (ad mb), .int x] (fun M' => M' mb = .inr (12, modF ad mb (s_X13_wrong_0_1 mv x)) ∧ ∀ q : Nat, q ≠ mb → M' q = M q) := by
  refine q_body (cc := cX13_wrong) (maxL := 2) (ret := none) (by decide) rfl (Nat.le_of_ble_eq_true rfl) ?_
  intro p e s m args below meth c ls X hr hlocks hK hP hl
  obtain ⟨hx, hb, hml, hown, hts⟩ := id X
  have hS : va_S (ipA ad n) s.heap s.heap [] := va_S.rf
  have hl : lv_has ls 2 [(0, .ref (ad mb)), (1, .int x)] := hl
  refine lv_aload_n hx hb dX13_wrong_0 rfl (lv_at hl 0 rfl) ?_
  refine q_get (v := .int (mv 31)) (fs := modF ad mb mv) X hK hP fX13_wrong_222 h_mb m_mb rfl dX13_wrong_1 ?_
  refine lv_if_eq (tgt := 8) hx hb dX13_wrong_4 (by decide) (fun c_4 => ?_) (fun c_4 => ?_)
  · skip
    refine lv_aload_n hx hb dX13_wrong_8 rfl (lv_at hl 0 rfl) ?_
    refine lv_iload_n hx hb dX13_wrong_9 rfl (lv_at hl 1 rfl) ?_
    refine q_put (fs := modF ad mb mv) (fs' := modF ad mb (upd mv 31 x)) X hK hI hP hS fX13_wrong_222 fw_12_31 h_mb m_mb rfl rfl (Nat.le_of_ble_eq_true rfl) rfl dX13_wrong_10 (fun H locs hP hS => ?_)
    refine lv_aload_n hx hb dX13_wrong_13 rfl (lv_at hl 0 rfl) ?_
    refine lv_aload_n hx hb dX13_wrong_14 rfl (lv_at hl 0 rfl) ?_
    refine q_get (v := .int (mv 29)) (fs := modF ad mb (upd mv 31 x)) X hK hP fX13_wrong_193 h_mb (va_up_self M mb (.inr (12, modF ad mb (upd mv 31 x)))) rfl dX13_wrong_15 ?_
    refine q_put (fs := modF ad mb (upd mv 31 x)) (fs' := modF ad mb (upd (upd mv 31 x) 32 (mv 29))) X hK hI hP hS fX13_wrong_225 fw_12_32 h_mb (va_up_self M mb (.inr (12, modF ad mb (upd mv 31 x)))) rfl rfl (Nat.le_of_ble_eq_true rfl) rfl dX13_wrong_18 (fun H locs hP hS => ?_)
    exact q_wvret X hr hlocks hP hS ⟨(by rw [s_X13_wrong_0_1, if_pos c_4]; exact (va_up_self (va_up M mb (.inr (12, modF ad mb (upd mv 31 x)))) mb (.inr (12, modF ad mb (upd (upd mv 31 x) 32 (mv 29)))))), (fun q n0 => ((va_up_ne _ _ n0).trans (va_up_ne _ _ n0)))⟩ dX13_wrong_21
  · skip
    exact q_wvret X hr hlocks hP hS ⟨(by rw [s_X13_wrong_0_1, if_neg c_4]; exact m_mb), (fun q n0 => rfl)⟩ dX13_wrong_7
