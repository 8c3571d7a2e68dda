/-! PoundsOver: what doesn't throw -/
def poF (ad : Nat → Nat) (_ ta h h2 re g o g2 o2 : Nat) (ik fp : Int32) (kb an sc tr : Nat) : List Value := [.ref (ad ta), .ref (ad h), .ref (ad h2), .ref (ad re), .ref (ad g), .ref (ad o), .ref (ad g2), .ref (ad o2), .int ik, .int fp, .ref (ad kb), .ref (ad an), .ref (ad sc), .ref (ad tr)]
def apS : Nat → Int32
  | 0 => 24
  | t + 1 => apS t + (-8)
theorem apS_4 : ∀ t : Nat, t ≤ 4 → (apS t < 0 ↔ t = 4) := by decide +kernel
/-- four bytes, put behind what was fed -/
def apP (x ln : Int32) (bf : Nat → Int32) : Nat → Int32 × (Nat → Int32)
  | 0 => (ln, bf)
  | t + 1 => if (apP x ln bf t).1 < 0 then apP x ln bf t else if 700 ≤ (apP x ln bf t).1 then apP x ln bf t else ((apP x ln bf t).1 + 1, upd (apP x ln bf t).2 (apP x ln bf t).1.toNatClampNeg (vp_nar .byte ((x.toUInt32 >>> ((apS t).toUInt32 &&& Int32.toUInt32 31)).toInt32.toInt8.toInt32)))
set_option maxRecDepth 20000 in
theorem fX9_append_24 : FL wsX9_append RX9 24 9 1 := ⟨RX9, TX9, 8, rfl, by decide +kernel, by decide, by decide +kernel⟩
set_option maxRecDepth 20000 in
theorem fX9_append_9 : FL wsX9_append RX9 9 9 0 := ⟨RX9, TX9, 8, rfl, by decide +kernel, by decide, by decide +kernel⟩
theorem fw_9_1 : FW 9 1 .int := ⟨RX9, TX9, 8, tyX9, rfl, tyX9_ok, nmX9, by decide, rfl, by decide +kernel⟩
set_option maxHeartbeats 4000000 in
set_option maxRecDepth 100000 in
theorem c_X9_append (l : Launch) (D : va_G) (cB cI cJ : ClassId) (ad : Nat → Nat) (n : Nat) (M : Nat → va_E) (hI : ipI ad n) (ta wo : Nat) (ln en nx pl kd nu : Int32) (bf : Nat → Int32) (x : Int32) (h_ta : ta < n) (h_ta_1 : ta + 1 < n) (m_ta : M ta = .inr (9, tapeF ad ta ln en nx pl kd nu wo)) (m_ta_1 : M (ta + 1) = .inl (cB, 700, .inl bf))  : cWv l D cB cI cJ ad n M yX9_append wsX9_append 0 0 [.ref (ad ta), .int x] (fun M' => M' ta = .inr (9, tapeF ad ta ((apP x ln bf 4).1) en nx pl kd nu wo) ∧ M' (ta + 1) = .inl (cB, 700, .inl ((apP x ln bf 4).2)) ∧ ∀ q : Nat, q ≠ ta → q ≠ ta + 1 → M' q = M q) := by
  refine q_body (cc := cX9_append) (maxL := 3) (ret := none) (by decide) rfl (Nat.le_of_ble_eq_true rfl) ?_
  intro p e s m args below meth c ls X hr hlocks hK hP hl
  obtain ⟨hx, hb, hml, hown, hts⟩ := id X
  have hS : va_S (ipA ad n) s.heap s.heap [] := va_S.rf
  have hl : lv_has ls 3 [(0, .ref (ad ta)), (1, .int x)] := hl
  refine lv_bipush (v := 24) hx hb dX9_append_0 (by decide) ?_
  refine lv_istore_n (lv' := [(2, .int 24), (0, .ref (ad ta)), (1, .int x)]) hx hb dX9_append_2 rfl hl (by decide) rfl (fun ls hl => ?_)
  have loop_3 : ∀ (fuel : Nat) (t : Nat) (x2 : Int32), 4 - t < fuel → (t ≤ 4) → x2 = apS t → ∀ (ML3 : Nat → va_E) (H : Heap) (locs : List Loc), ML3 ta = .inr (9, tapeF ad ta ((apP x ln bf t).1) en nx pl kd nu wo) → ML3 (ta + 1) = .inl (cB, 700, .inl ((apP x ln bf t).2)) → (∀ q : Nat, q ≠ ta → q ≠ ta + 1 → ML3 q = M q) → va_P D vwCl (ip ad n ML3) H → va_S (ipA ad n) s.heap H locs → ∀ (ls : Array Slot), lv_has ls 3 [(0, .ref (ad ta)), (1, .int x), (2, .int x2)] → W p l e (rmOf 0 0) s m args below meth c H locs 0 0 (MQ below (va_Qv (fun M' => M' ta = .inr (9, tapeF ad ta ((apP x ln bf 4).1) en nx pl kd nu wo) ∧ M' (ta + 1) = .inl (cB, 700, .inl ((apP x ln bf 4).2)) ∧ ∀ q : Nat, q ≠ ta → q ≠ ta + 1 → M' q = M q) (fun M' t => va_P D vwCl (ip ad n M') t.heap) (ipA ad n)) args s 0 0 (ipA ad n)) (F0 m 3 ls []) := by
    intro fuel
    induction fuel with
    | zero =>
      intro t x2 hz
      exact absurd hz (Nat.not_lt_zero _)
    | succ fuel ih_3 =>
      intro t x2 hz_3 ht e2 ML3 H locs mL3_0 mL3_1 fL3 hP hS ls hl
      subst e2
      skip
      refine lv_iload_n hx hb dX9_append_3 rfl (lv_at hl 2 rfl) ?_
      refine lv_if_lt (tgt := 55) hx hb dX9_append_4 (by decide) (fun c_4 => ?_) (fun c_4 => ?_)
      · skip
        have h9 : t = 4 := (apS_4 t ht).mp c_4
        exact q_wvret X hr hlocks hP hS ⟨(by subst h9; exact mL3_0), (by subst h9; exact mL3_1), (fun q n0 n1 => (fL3 q n0 n1))⟩ dX9_append_55
      · skip
        have h9 : t < 4 := Nat.lt_of_le_of_ne ht (fun q => c_4 ((apS_4 t ht).mpr q))
        refine lv_aload_n hx hb dX9_append_7 rfl (lv_at hl 0 rfl) ?_
        refine q_get (v := .int ((apP x ln bf t).1)) (fs := tapeF ad ta ((apP x ln bf t).1) en nx pl kd nu wo) X hK hP fX9_append_24 h_ta mL3_0 rfl dX9_append_8 ?_
        refine lv_if_lt (tgt := 49) hx hb dX9_append_11 (by decide) (fun c_11 => ?_) (fun c_11 => ?_)
        · skip
          refine lv_iinc (v := ((apS t) + (-8))) (lv' := [(2, .int ((apS t) + (-8))), (0, .ref (ad ta)), (1, .int x)]) hx hb dX9_append_49 hl (k := 2) rfl rfl (by decide) rfl (fun ls hl => ?_)
          refine lv_goto (tgt := 3) hx hb dX9_append_52 (by decide) ?_
          exact ih_3 (t + 1) ((apS t) + (-8)) (by omega) (by omega) (by rfl) _ _ _ (by refine mL3_0.trans ?_; first | (rw [apP, if_pos c_11]; done) | (rw [apP, if_neg c_11, if_pos c_23]; done) | (rw [apP, if_neg c_11, if_neg c_23]; done)) (by refine mL3_1.trans ?_; first | (rw [apP, if_pos c_11]; done) | (rw [apP, if_neg c_11, if_pos c_23]; done) | (rw [apP, if_neg c_11, if_neg c_23]; done)) (fun q n0 n1 => (fL3 q n0 n1)) hP hS ls (lv_sub hl [1, 2, 0] rfl)
        · skip
          refine lv_aload_n hx hb dX9_append_14 rfl (lv_at hl 0 rfl) ?_
          refine q_get (v := .int ((apP x ln bf t).1)) (fs := tapeF ad ta ((apP x ln bf t).1) en nx pl kd nu wo) X hK hP fX9_append_24 h_ta mL3_0 rfl dX9_append_15 ?_
          refine lv_aload_n hx hb dX9_append_18 rfl (lv_at hl 0 rfl) ?_
          refine q_get (v := .ref (ad (ta + 1))) (fs := tapeF ad ta ((apP x ln bf t).1) en nx pl kd nu wo) X hK hP fX9_append_9 h_ta mL3_0 rfl dX9_append_19 ?_
          refine q_alenB (f := ((apP x ln bf t).2)) (k := 700) (v := 700) X hK hP h_ta_1 mL3_1 (by decide) dX9_append_22 ?_
          refine lv_icmp_ge (tgt := 49) hx hb dX9_append_23 (by decide) (fun c_23 => ?_) (fun c_23 => ?_)
          · skip
            refine lv_iinc (v := ((apS t) + (-8))) (lv' := [(2, .int ((apS t) + (-8))), (0, .ref (ad ta)), (1, .int x)]) hx hb dX9_append_49 hl (k := 2) rfl rfl (by decide) rfl (fun ls hl => ?_)
            refine lv_goto (tgt := 3) hx hb dX9_append_52 (by decide) ?_
            exact ih_3 (t + 1) ((apS t) + (-8)) (by omega) (by omega) (by rfl) _ _ _ (by refine mL3_0.trans ?_; first | (rw [apP, if_pos c_11]; done) | (rw [apP, if_neg c_11, if_pos c_23]; done) | (rw [apP, if_neg c_11, if_neg c_23]; done)) (by refine mL3_1.trans ?_; first | (rw [apP, if_pos c_11]; done) | (rw [apP, if_neg c_11, if_pos c_23]; done) | (rw [apP, if_neg c_11, if_neg c_23]; done)) (fun q n0 n1 => (fL3 q n0 n1)) hP hS ls (lv_sub hl [1, 2, 0] rfl)
          · skip
            refine lv_aload_n hx hb dX9_append_26 rfl (lv_at hl 0 rfl) ?_
            refine q_get (v := .ref (ad (ta + 1))) (fs := tapeF ad ta ((apP x ln bf t).1) en nx pl kd nu wo) X hK hP fX9_append_9 h_ta mL3_0 rfl dX9_append_27 ?_
            refine lv_aload_n hx hb dX9_append_30 rfl (lv_at hl 0 rfl) ?_
            refine q_get (v := .int ((apP x ln bf t).1)) (fs := tapeF ad ta ((apP x ln bf t).1) en nx pl kd nu wo) X hK hP fX9_append_24 h_ta mL3_0 rfl dX9_append_31 ?_
            refine lv_iload_n hx hb dX9_append_34 rfl (lv_at hl 1 rfl) ?_
            refine lv_iload_n hx hb dX9_append_35 rfl (lv_at hl 2 rfl) ?_
            refine lv_iushr hx hb dX9_append_36 rfl ?_
            refine lv_i2b hx hb dX9_append_37 rfl ?_
            refine q_bast (f := ((apP x ln bf t).2)) (k := 700) X hK hI hP hS h_ta_1 mL3_1 (vp_in_d (k := 700) (by decide) c_11 c_23) dX9_append_38 (fun H locs hP hS => ?_)
            refine lv_aload_n hx hb dX9_append_39 rfl (lv_at hl 0 rfl) ?_
            refine lv_dup hx hb dX9_append_40 rfl ?_
            refine q_get (v := .int ((apP x ln bf t).1)) (fs := tapeF ad ta ((apP x ln bf t).1) en nx pl kd nu wo) X hK hP fX9_append_24 h_ta ((va_up_ne ML3 (.inl (cB, 700, .inl (upd ((apP x ln bf t).2) ((apP x ln bf t).1).toNatClampNeg (vp_nar .byte ((((x : Int32).toUInt32 >>> ((apS t : Int32).toUInt32 &&& Int32.toUInt32 31)).toInt32).toInt8.toInt32))))) (show ta ≠ ta + 1 by omega)).trans mL3_0) rfl dX9_append_41 ?_
            refine lv_iconst (v := 1) hx hb dX9_append_44 (by decide) ?_
            refine lv_iadd hx hb dX9_append_45 ?_
            refine q_put (fs := tapeF ad ta ((apP x ln bf t).1) en nx pl kd nu wo) (fs' := tapeF ad ta (((apP x ln bf t).1) + 1) en nx pl kd nu wo) X hK hI hP hS fX9_append_24 fw_9_1 h_ta ((va_up_ne ML3 (.inl (cB, 700, .inl (upd ((apP x ln bf t).2) ((apP x ln bf t).1).toNatClampNeg (vp_nar .byte ((((x : Int32).toUInt32 >>> ((apS t : Int32).toUInt32 &&& Int32.toUInt32 31)).toInt32).toInt8.toInt32))))) (show ta ≠ ta + 1 by omega)).trans mL3_0) rfl rfl (Nat.le_of_ble_eq_true rfl) rfl dX9_append_46 (fun H locs hP hS => ?_)
            refine lv_iinc (v := ((apS t) + (-8))) (lv' := [(2, .int ((apS t) + (-8))), (0, .ref (ad ta)), (1, .int x)]) hx hb dX9_append_49 hl (k := 2) rfl rfl (by decide) rfl (fun ls hl => ?_)
            refine lv_goto (tgt := 3) hx hb dX9_append_52 (by decide) ?_
            exact ih_3 (t + 1) ((apS t) + (-8)) (by omega) (by omega) (by rfl) _ _ _ (by refine (va_up_self (va_up ML3 (ta + 1) (.inl (cB, 700, .inl (upd ((apP x ln bf t).2) ((apP x ln bf t).1).toNatClampNeg (vp_nar .byte ((((x : Int32).toUInt32 >>> ((apS t : Int32).toUInt32 &&& Int32.toUInt32 31)).toInt32).toInt8.toInt32)))))) ta (.inr (9, tapeF ad ta (((apP x ln bf t).1) + 1) en nx pl kd nu wo))).trans ?_; first | (rw [apP, if_pos c_11]; done) | (rw [apP, if_neg c_11, if_pos c_23]; done) | (rw [apP, if_neg c_11, if_neg c_23]; done)) (by refine ((va_up_ne (va_up ML3 (ta + 1) (.inl (cB, 700, .inl (upd ((apP x ln bf t).2) ((apP x ln bf t).1).toNatClampNeg (vp_nar .byte ((((x : Int32).toUInt32 >>> ((apS t : Int32).toUInt32 &&& Int32.toUInt32 31)).toInt32).toInt8.toInt32)))))) (.inr (9, tapeF ad ta (((apP x ln bf t).1) + 1) en nx pl kd nu wo)) (show ta + 1 ≠ ta by omega)).trans (va_up_self ML3 (ta + 1) (.inl (cB, 700, .inl (upd ((apP x ln bf t).2) ((apP x ln bf t).1).toNatClampNeg (vp_nar .byte ((((x : Int32).toUInt32 >>> ((apS t : Int32).toUInt32 &&& Int32.toUInt32 31)).toInt32).toInt8.toInt32))))))).trans ?_; first | (rw [apP, if_pos c_11]; done) | (rw [apP, if_neg c_11, if_pos c_23]; done) | (rw [apP, if_neg c_11, if_neg c_23]; done)) (fun q n0 n1 => ((va_up_ne _ _ n0).trans ((va_up_ne _ _ n1).trans (fL3 q n0 n1)))) hP hS ls (lv_sub hl [1, 2, 0] rfl)
  exact loop_3 (5) 0 24 (by omega) (by omega) (by rfl) _ _ _ (by exact m_ta) (by exact m_ta_1) (fun q n0 n1 => rfl) hP hS ls (lv_sub hl [1, 2, 0] rfl)
set_option maxRecDepth 20000 in
theorem fX12_fault_57 : FL wsX12_fault RX12 57 11 9 := ⟨RX12, TX12, 14, rfl, by decide +kernel, by decide, by decide +kernel⟩
set_option maxHeartbeats 4000000 in
set_option maxRecDepth 100000 in
theorem c_X12_fault (l : Launch) (D : va_G) (cB cI cJ : ClassId) (ad : Nat → Nat) (n : Nat) (M : Nat → va_E) (po ta h h2 re g o g2 o2 kb an sc tr : Nat) (ik fp : Int32) (h_po : po < n) (m_po : M po = .inr (11, poF ad po ta h h2 re g o g2 o2 ik fp kb an sc tr))  : cR l D cB cI cJ ad n M yX12_fault wsX12_fault 0 0 [.ref (ad po)] fp := by
  refine q_body (cc := cX12_fault) (maxL := 1) (ret := (some .int)) (by decide) rfl (Nat.le_of_ble_eq_true rfl) ?_
  intro p e s m args below meth c ls X hr hlocks hK hP hl
  obtain ⟨hx, hb, hml, hown, hts⟩ := id X
  have hS : va_S (ipA ad n) s.heap s.heap [] := va_S.rf
  have hl : lv_has ls 1 [(0, .ref (ad po))] := hl
  refine lv_aload_n hx hb dX12_fault_0 rfl (lv_at hl 0 rfl) ?_
  refine q_get (v := .int fp) (fs := poF ad po ta h h2 re g o g2 o2 ik fp kb an sc tr) X hK hP fX12_fault_57 h_po m_po rfl dX12_fault_1 ?_
  exact q_iret hb hx hr hlocks (by rfl) dX12_fault_4
set_option maxRecDepth 20000 in
theorem fX12_feed_12 : FL wsX12_feed RX12 12 11 0 := ⟨RX12, TX12, 14, rfl, by decide +kernel, by decide, by decide +kernel⟩
set_option maxRecDepth 20000 in
theorem fX12_feed_89 : FL wsX12_feed RX12 89 9 1 := ⟨RX9, TX9, 8, rfl, by decide +kernel, by decide, by decide +kernel⟩
theorem yd_X9_append : YD yX9_append 1 := ⟨by decide +kernel, by decide +kernel, by decide +kernel⟩
def s_X12_feed (ln : Int32) (bf : Nat → Int32) (x : Int32) (y : Int32) (z : Int32) (x4 : Int32) (x5 : Int32) : Int32 := if ln ≤ 680 then ((apP x5 ((apP x4 ((apP z ((apP y ((apP x ln bf 4).1) ((apP x ln bf 4).2) 4).1) ((apP y ((apP x ln bf 4).1) ((apP x ln bf 4).2) 4).2) 4).1) ((apP z ((apP y ((apP x ln bf 4).1) ((apP x ln bf 4).2) 4).1) ((apP y ((apP x ln bf 4).1) ((apP x ln bf 4).2) 4).2) 4).2) 4).1) ((apP x4 ((apP z ((apP y ((apP x ln bf 4).1) ((apP x ln bf 4).2) 4).1) ((apP y ((apP x ln bf 4).1) ((apP x ln bf 4).2) 4).2) 4).1) ((apP z ((apP y ((apP x ln bf 4).1) ((apP x ln bf 4).2) 4).1) ((apP y ((apP x ln bf 4).1) ((apP x ln bf 4).2) 4).2) 4).2) 4).2) 4).1) else (-1)
def s_X12_feed_0_1 (ln : Int32) (bf : Nat → Int32) (x : Int32) (y : Int32) (z : Int32) (x4 : Int32) (x5 : Int32) : Int32 := if ln ≤ 680 then ((apP x5 ((apP x4 ((apP z ((apP y ((apP x ln bf 4).1) ((apP x ln bf 4).2) 4).1) ((apP y ((apP x ln bf 4).1) ((apP x ln bf 4).2) 4).2) 4).1) ((apP z ((apP y ((apP x ln bf 4).1) ((apP x ln bf 4).2) 4).1) ((apP y ((apP x ln bf 4).1) ((apP x ln bf 4).2) 4).2) 4).2) 4).1) ((apP x4 ((apP z ((apP y ((apP x ln bf 4).1) ((apP x ln bf 4).2) 4).1) ((apP y ((apP x ln bf 4).1) ((apP x ln bf 4).2) 4).2) 4).1) ((apP z ((apP y ((apP x ln bf 4).1) ((apP x ln bf 4).2) 4).1) ((apP y ((apP x ln bf 4).1) ((apP x ln bf 4).2) 4).2) 4).2) 4).2) 4).1) else ln
def s_X12_feed_1_f (ln : Int32) (bf : Nat → Int32) (x : Int32) (y : Int32) (z : Int32) (x4 : Int32) (x5 : Int32) : Nat → Int32 := if ln ≤ 680 then ((apP x5 ((apP x4 ((apP z ((apP y ((apP x ln bf 4).1) ((apP x ln bf 4).2) 4).1) ((apP y ((apP x ln bf 4).1) ((apP x ln bf 4).2) 4).2) 4).1) ((apP z ((apP y ((apP x ln bf 4).1) ((apP x ln bf 4).2) 4).1) ((apP y ((apP x ln bf 4).1) ((apP x ln bf 4).2) 4).2) 4).2) 4).1) ((apP x4 ((apP z ((apP y ((apP x ln bf 4).1) ((apP x ln bf 4).2) 4).1) ((apP y ((apP x ln bf 4).1) ((apP x ln bf 4).2) 4).2) 4).1) ((apP z ((apP y ((apP x ln bf 4).1) ((apP x ln bf 4).2) 4).1) ((apP y ((apP x ln bf 4).1) ((apP x ln bf 4).2) 4).2) 4).2) 4).2) 4).2) else bf
set_option maxHeartbeats 4000000 in
set_option maxRecDepth 100000 in
theorem c_X12_feed (l : Launch) (D : va_G) (cB cI cJ : ClassId) (ad : Nat → Nat) (n : Nat) (M : Nat → va_E) (hI : ipI ad n) (po ta h h2 re g o g2 o2 kb an sc tr : Nat) (ik fp : Int32) (wo : Nat) (ln en nx pl kd nu : Int32) (bf : Nat → Int32) (x y z x4 x5 : Int32) (h_po : po < n) (h_ta : ta < n) (h_ta_1 : ta + 1 < n) (m_po : M po = .inr (11, poF ad po ta h h2 re g o g2 o2 ik fp kb an sc tr)) (m_ta : M ta = .inr (9, tapeF ad ta ln en nx pl kd nu wo)) (m_ta_1 : M (ta + 1) = .inl (cB, 700, .inl bf)) (hpt : ta + 1 < po ∨ po < ta) : cWi l D cB cI cJ ad n M yX12_feed wsX12_feed 1 22 [.ref (ad po), .int x, .int y, .int z, .int x4, .int x5] (fun r M' => r = s_X12_feed ln bf x y z x4 x5 ∧ M' ta = .inr (9, tapeF ad ta (s_X12_feed_0_1 ln bf x y z x4 x5) en nx pl kd nu wo) ∧ M' (ta + 1) = .inl (cB, 700, .inl (s_X12_feed_1_f ln bf x y z x4 x5)) ∧ ∀ q : Nat, q ≠ ta → q ≠ ta + 1 → M' q = M q) := by
  refine q_body (cc := cX12_feed) (maxL := 6) (ret := (some .int)) (by decide) rfl (Nat.le_of_ble_eq_true rfl) ?_
  intro p e s m args below meth c ls X hr hlocks hK hP hl
  obtain ⟨hx, hb, hml, hown, hts⟩ := id X
  have hS : va_S (ipA ad n) s.heap s.heap [] := va_S.rf
  have hl : lv_has ls 6 [(0, .ref (ad po)), (1, .int x), (2, .int y), (3, .int z), (4, .int x4), (5, .int x5)] := hl
  refine lv_aload_n hx hb dX12_feed_0 rfl (lv_at hl 0 rfl) ?_
  refine q_get (v := .ref (ad ta)) (fs := poF ad po ta h h2 re g o g2 o2 ik fp kb an sc tr) X hK hP fX12_feed_12 h_po m_po rfl dX12_feed_1 ?_
  refine q_get (v := .int ln) (fs := tapeF ad ta ln en nx pl kd nu wo) X hK hP fX12_feed_89 h_ta m_ta rfl dX12_feed_4 ?_
  refine lv_sipush (v := 680) hx hb dX12_feed_7 (by decide) ?_
  refine lv_icmp_le (tgt := 15) hx hb dX12_feed_10 (by decide) (fun c_10 => ?_) (fun c_10 => ?_)
  · skip
    refine lv_aload_n hx hb dX12_feed_15 rfl (lv_at hl 0 rfl) ?_
    refine q_get (v := .ref (ad ta)) (fs := poF ad po ta h h2 re g o g2 o2 ik fp kb an sc tr) X hK hP fX12_feed_12 h_po m_po rfl dX12_feed_16 ?_
    refine lv_iload_n hx hb dX12_feed_19 rfl (lv_at hl 1 rfl) ?_
    refine q_wrVv (As := [.int x]) (rest := []) (c_X9_append l D cB cI cJ ad n M hI ta wo ln en nx pl kd nu bf x h_ta h_ta_1 m_ta m_ta_1 ) X hK hP hS hl.1 rfl gX12_feed_X9_append yd_X9_append ⟨Nat.le_of_ble_eq_true rfl, Nat.le_of_ble_eq_true rfl⟩ h_ta m_ta (ci := 9) rfl rfl (Nat.le_of_ble_eq_true rfl) ⟨Nat.zero_le _, Nat.zero_le _⟩ dX12_feed_20 (fun M2 H locs hp1 hP hS => ?_)
    obtain ⟨g4, g5, fr6⟩ := hp1
    refine lv_aload_n hx hb dX12_feed_23 rfl (lv_at hl 0 rfl) ?_
    refine q_get (v := .ref (ad ta)) (fs := poF ad po ta h h2 re g o g2 o2 ik fp kb an sc tr) X hK hP fX12_feed_12 h_po ((fr6 po (by omega) (by omega)).trans m_po) rfl dX12_feed_24 ?_
    refine lv_iload_n hx hb dX12_feed_27 rfl (lv_at hl 2 rfl) ?_
    refine q_wrVv (As := [.int y]) (rest := []) (c_X9_append l D cB cI cJ ad n M2 hI ta wo ((apP x ln bf 4).1) en nx pl kd nu ((apP x ln bf 4).2) y h_ta h_ta_1 g4 g5 ) X hK hP hS hl.1 rfl gX12_feed_X9_append yd_X9_append ⟨Nat.le_of_ble_eq_true rfl, Nat.le_of_ble_eq_true rfl⟩ h_ta g4 (ci := 9) rfl rfl (Nat.le_of_ble_eq_true rfl) ⟨Nat.zero_le _, Nat.zero_le _⟩ dX12_feed_28 (fun M8 H locs hp7 hP hS => ?_)
    obtain ⟨g10, g11, fr12⟩ := hp7
    refine lv_aload_n hx hb dX12_feed_31 rfl (lv_at hl 0 rfl) ?_
    refine q_get (v := .ref (ad ta)) (fs := poF ad po ta h h2 re g o g2 o2 ik fp kb an sc tr) X hK hP fX12_feed_12 h_po ((fr12 po (by omega) (by omega)).trans ((fr6 po (by omega) (by omega)).trans m_po)) rfl dX12_feed_32 ?_
    refine lv_iload_n hx hb dX12_feed_35 rfl (lv_at hl 3 rfl) ?_
    refine q_wrVv (As := [.int z]) (rest := []) (c_X9_append l D cB cI cJ ad n M8 hI ta wo ((apP y ((apP x ln bf 4).1) ((apP x ln bf 4).2) 4).1) en nx pl kd nu ((apP y ((apP x ln bf 4).1) ((apP x ln bf 4).2) 4).2) z h_ta h_ta_1 g10 g11 ) X hK hP hS hl.1 rfl gX12_feed_X9_append yd_X9_append ⟨Nat.le_of_ble_eq_true rfl, Nat.le_of_ble_eq_true rfl⟩ h_ta g10 (ci := 9) rfl rfl (Nat.le_of_ble_eq_true rfl) ⟨Nat.zero_le _, Nat.zero_le _⟩ dX12_feed_36 (fun M14 H locs hp13 hP hS => ?_)
    obtain ⟨g16, g17, fr18⟩ := hp13
    refine lv_aload_n hx hb dX12_feed_39 rfl (lv_at hl 0 rfl) ?_
    refine q_get (v := .ref (ad ta)) (fs := poF ad po ta h h2 re g o g2 o2 ik fp kb an sc tr) X hK hP fX12_feed_12 h_po ((fr18 po (by omega) (by omega)).trans ((fr12 po (by omega) (by omega)).trans ((fr6 po (by omega) (by omega)).trans m_po))) rfl dX12_feed_40 ?_
    refine lv_iload hx hb dX12_feed_43 (lv_at hl 4 rfl) ?_
    refine q_wrVv (As := [.int x4]) (rest := []) (c_X9_append l D cB cI cJ ad n M14 hI ta wo ((apP z ((apP y ((apP x ln bf 4).1) ((apP x ln bf 4).2) 4).1) ((apP y ((apP x ln bf 4).1) ((apP x ln bf 4).2) 4).2) 4).1) en nx pl kd nu ((apP z ((apP y ((apP x ln bf 4).1) ((apP x ln bf 4).2) 4).1) ((apP y ((apP x ln bf 4).1) ((apP x ln bf 4).2) 4).2) 4).2) x4 h_ta h_ta_1 g16 g17 ) X hK hP hS hl.1 rfl gX12_feed_X9_append yd_X9_append ⟨Nat.le_of_ble_eq_true rfl, Nat.le_of_ble_eq_true rfl⟩ h_ta g16 (ci := 9) rfl rfl (Nat.le_of_ble_eq_true rfl) ⟨Nat.zero_le _, Nat.zero_le _⟩ dX12_feed_45 (fun M20 H locs hp19 hP hS => ?_)
    obtain ⟨g22, g23, fr24⟩ := hp19
    refine lv_aload_n hx hb dX12_feed_48 rfl (lv_at hl 0 rfl) ?_
    refine q_get (v := .ref (ad ta)) (fs := poF ad po ta h h2 re g o g2 o2 ik fp kb an sc tr) X hK hP fX12_feed_12 h_po ((fr24 po (by omega) (by omega)).trans ((fr18 po (by omega) (by omega)).trans ((fr12 po (by omega) (by omega)).trans ((fr6 po (by omega) (by omega)).trans m_po)))) rfl dX12_feed_49 ?_
    refine lv_iload hx hb dX12_feed_52 (lv_at hl 5 rfl) ?_
    refine q_wrVv (As := [.int x5]) (rest := []) (c_X9_append l D cB cI cJ ad n M20 hI ta wo ((apP x4 ((apP z ((apP y ((apP x ln bf 4).1) ((apP x ln bf 4).2) 4).1) ((apP y ((apP x ln bf 4).1) ((apP x ln bf 4).2) 4).2) 4).1) ((apP z ((apP y ((apP x ln bf 4).1) ((apP x ln bf 4).2) 4).1) ((apP y ((apP x ln bf 4).1) ((apP x ln bf 4).2) 4).2) 4).2) 4).1) en nx pl kd nu ((apP x4 ((apP z ((apP y ((apP x ln bf 4).1) ((apP x ln bf 4).2) 4).1) ((apP y ((apP x ln bf 4).1) ((apP x ln bf 4).2) 4).2) 4).1) ((apP z ((apP y ((apP x ln bf 4).1) ((apP x ln bf 4).2) 4).1) ((apP y ((apP x ln bf 4).1) ((apP x ln bf 4).2) 4).2) 4).2) 4).2) x5 h_ta h_ta_1 g22 g23 ) X hK hP hS hl.1 rfl gX12_feed_X9_append yd_X9_append ⟨Nat.le_of_ble_eq_true rfl, Nat.le_of_ble_eq_true rfl⟩ h_ta g22 (ci := 9) rfl rfl (Nat.le_of_ble_eq_true rfl) ⟨Nat.zero_le _, Nat.zero_le _⟩ dX12_feed_54 (fun M26 H locs hp25 hP hS => ?_)
    obtain ⟨g28, g29, fr30⟩ := hp25
    refine lv_aload_n hx hb dX12_feed_57 rfl (lv_at hl 0 rfl) ?_
    refine q_get (v := .ref (ad ta)) (fs := poF ad po ta h h2 re g o g2 o2 ik fp kb an sc tr) X hK hP fX12_feed_12 h_po ((fr30 po (by omega) (by omega)).trans ((fr24 po (by omega) (by omega)).trans ((fr18 po (by omega) (by omega)).trans ((fr12 po (by omega) (by omega)).trans ((fr6 po (by omega) (by omega)).trans m_po))))) rfl dX12_feed_58 ?_
    refine q_get (v := .int ((apP x5 ((apP x4 ((apP z ((apP y ((apP x ln bf 4).1) ((apP x ln bf 4).2) 4).1) ((apP y ((apP x ln bf 4).1) ((apP x ln bf 4).2) 4).2) 4).1) ((apP z ((apP y ((apP x ln bf 4).1) ((apP x ln bf 4).2) 4).1) ((apP y ((apP x ln bf 4).1) ((apP x ln bf 4).2) 4).2) 4).2) 4).1) ((apP x4 ((apP z ((apP y ((apP x ln bf 4).1) ((apP x ln bf 4).2) 4).1) ((apP y ((apP x ln bf 4).1) ((apP x ln bf 4).2) 4).2) 4).1) ((apP z ((apP y ((apP x ln bf 4).1) ((apP x ln bf 4).2) 4).1) ((apP y ((apP x ln bf 4).1) ((apP x ln bf 4).2) 4).2) 4).2) 4).2) 4).1)) (fs := tapeF ad ta ((apP x5 ((apP x4 ((apP z ((apP y ((apP x ln bf 4).1) ((apP x ln bf 4).2) 4).1) ((apP y ((apP x ln bf 4).1) ((apP x ln bf 4).2) 4).2) 4).1) ((apP z ((apP y ((apP x ln bf 4).1) ((apP x ln bf 4).2) 4).1) ((apP y ((apP x ln bf 4).1) ((apP x ln bf 4).2) 4).2) 4).2) 4).1) ((apP x4 ((apP z ((apP y ((apP x ln bf 4).1) ((apP x ln bf 4).2) 4).1) ((apP y ((apP x ln bf 4).1) ((apP x ln bf 4).2) 4).2) 4).1) ((apP z ((apP y ((apP x ln bf 4).1) ((apP x ln bf 4).2) 4).1) ((apP y ((apP x ln bf 4).1) ((apP x ln bf 4).2) 4).2) 4).2) 4).2) 4).1) en nx pl kd nu wo) X hK hP fX12_feed_89 h_ta g28 rfl dX12_feed_61 ?_
    exact q_wzret X hr hlocks hP hS (rfl) ⟨(by rw [s_X12_feed, if_pos c_10]), (by rw [s_X12_feed_0_1, if_pos c_10]; exact g28), (by rw [s_X12_feed_1_f, if_pos c_10]; exact g29), (fun q n0 n1 => ((fr30 q n0 n1).trans ((fr24 q n0 n1).trans ((fr18 q n0 n1).trans ((fr12 q n0 n1).trans (fr6 q n0 n1))))))⟩ dX12_feed_64
  · skip
    refine lv_iconst (v := (-1)) hx hb dX12_feed_13 (by decide) ?_
    exact q_wzret X hr hlocks hP hS (rfl) ⟨(by rw [s_X12_feed, if_neg c_10]), (by rw [s_X12_feed_0_1, if_neg c_10]; exact m_ta), (by rw [s_X12_feed_1_f, if_neg c_10]; exact m_ta_1), (fun q n0 n1 => rfl)⟩ dX12_feed_14
set_option maxRecDepth 20000 in
theorem fX12_bill_40 : FL wsX12_bill RX12 40 11 4 := ⟨RX12, TX12, 14, rfl, by decide +kernel, by decide, by decide +kernel⟩
def s_X12_bill (nl : Nat) (nt : Nat) (nc : Nat) (nq : Nat) (op : Int32) (td : Int32) (cf : Nat → Int32) (tf : Nat → Int32) (qf : Nat → Int32) (rf : Nat → Int32) (plf : Nat → Int32) : Int32 := (ttS (fun t => tat 12 plf (nI t)) (fun t => prS qf (tat 84 tf (nI t * 7 + 1)) nq 0) (fun t => tat 84 tf (nI t * 7 + 4)) (tcS (fun c => feeS nl rf td (smS tf (taS plf (nI c) nt) 1 nt) (tat 25 cf (nI c * 5 + 1)) (bcI (taS plf (nI c) nt)) (tat 25 cf (nI c * 5 + 4))) (fun c => tat 25 cf (nI c * 5 + 3)) op nc) nt)
set_option maxHeartbeats 4000000 in
set_option maxRecDepth 100000 in
theorem c_X12_bill (l : Launch) (D : va_G) (cB cI cJ : ClassId) (ad : Nat → Nat) (n : Nat) (M : Nat → va_E) (hI : ipI ad n) (po ta h h2 re g o g2 o2 kb an sc tr : Nat) (ik fp : Int32) (nl nt nc nq : Nat) (op td hg : Int32) (hv cf tf qf rf vf sf plf : Nat → Int32) (h_po : po < n) (h_g : g < n) (h_h : h < n) (h_h_3 : h + 3 < n) (h_h_4 : h + 4 < n) (h_h_5 : h + 5 < n) (h_h_6 : h + 6 < n) (h_h_9 : h + 9 < n) (h_h_10 : h + 10 < n) (h_h_11 : h + 11 < n) (h_h_12 : h + 12 < n) (h_h_13 : h + 13 < n) (h_h_14 : h + 14 < n) (h_h_15 : h + 15 < n) (h_g_1 : g + 1 < n) (h_g_2 : g + 2 < n) (h_h_7 : h + 7 < n) (h_h_8 : h + 8 < n) (m_po : M po = .inr (11, poF ad po ta h h2 re g o g2 o2 ik fp kb an sc tr)) (m_g : M g = .inr (7, standF ad g h op)) (m_h : M h = .inr (0, hallF ad h hv)) (m_h_3 : M (h + 3) = .inr (8, [.int 5, .ref (ad (h + 4))])) (m_h_4 : M (h + 4) = .inl (cI, 25, .inl cf)) (m_h_5 : M (h + 5) = .inr (8, [.int 7, .ref (ad (h + 6))])) (m_h_6 : M (h + 6) = .inl (cI, 84, .inl tf)) (m_h_9 : M (h + 9) = .inr (5, ruleF ad (h + 9) (nI nl) td hg)) (m_h_10 : M (h + 10) = .inr (8, [.int 1, .ref (ad (h + 9 + 2))])) (m_h_11 : M (h + 11) = .inl (cI, 700, .inl rf)) (m_h_12 : M (h + 12) = .inr (8, [.int 1, .ref (ad (h + 9 + 4))])) (m_h_13 : M (h + 13) = .inl (cI, 5, .inl vf)) (m_h_14 : M (h + 14) = .inr (8, [.int 1, .ref (ad (h + 9 + 6))])) (m_h_15 : M (h + 15) = .inl (cI, 31, .inl sf)) (m_g_1 : M (g + 1) = .inr (8, [.int 1, .ref (ad (g + 2))])) (m_g_2 : M (g + 2) = .inl (cI, 12, .inl plf)) (m_h_7 : M (h + 7) = .inr (8, [.int 2, .ref (ad (h + 8))])) (m_h_8 : M (h + 8) = .inl (cI, 12, .inl qf)) (h7 : hv 7 = nI nt) (hnt : nt ≤ 12) (h6 : hv 6 = nI nc) (hnc : nc ≤ 5) (h8 : hv 8 = nI nq) (hnq : nq ≤ 6) (hnl : nl ≤ 700) (hOK : ruleOK nl rf td) (hgh : g + 2 < h ∨ h + 15 < g) : cWi l D cB cI cJ ad n M yX12_bill wsX12_bill 5 113 [.ref (ad po)] (fun r M' => ∃ (v0__ : Nat → Int32) (v1__ : Nat → Int32) (v2__ : Int32), r = s_X12_bill nl nt nc nq op td cf tf qf rf plf ∧ M' (h + 13) = .inl (cI, 5, .inl v0__) ∧ M' (h + 15) = .inl (cI, 31, .inl v1__) ∧ M' (h + 9) = .inr (5, ruleF ad (h + 9) (nI nl) td v2__) ∧ ∀ q : Nat, q ≠ h + 13 → q ≠ h + 15 → q ≠ h + 9 → M' q = M q) := by
  refine q_body (cc := cX12_bill) (maxL := 1) (ret := (some .int)) (by decide) rfl (Nat.le_of_ble_eq_true rfl) ?_
  intro p e s m args below meth c ls X hr hlocks hK hP hl
  obtain ⟨hx, hb, hml, hown, hts⟩ := id X
  have hS : va_S (ipA ad n) s.heap s.heap [] := va_S.rf
  have hl : lv_has ls 1 [(0, .ref (ad po))] := hl
  refine lv_aload_n hx hb dX12_bill_0 rfl (lv_at hl 0 rfl) ?_
  refine q_get (v := .ref (ad g)) (fs := poF ad po ta h h2 re g o g2 o2 ik fp kb an sc tr) X hK hP fX12_bill_40 h_po m_po rfl dX12_bill_1 ?_
  refine q_wrVi (As := []) (rest := []) (c_X7_total l D cB cI cJ ad n M hI g h nl nt nc nq op td hg hv cf tf qf rf vf sf plf h_g h_h h_h_3 h_h_4 h_h_5 h_h_6 h_h_9 h_h_10 h_h_11 h_h_12 h_h_13 h_h_14 h_h_15 h_g_1 h_g_2 h_h_7 h_h_8 m_g m_h m_h_3 m_h_4 m_h_5 m_h_6 m_h_9 m_h_10 m_h_11 m_h_12 m_h_13 m_h_14 m_h_15 m_g_1 m_g_2 m_h_7 m_h_8 h7 hnt h6 hnc h8 hnq hnl hOK hgh) X hK hP hS hl.1 rfl gX12_bill_X7_total yd_X7_total ⟨Nat.le_of_ble_eq_true rfl, Nat.le_of_ble_eq_true rfl⟩ h_g m_g (ci := 7) rfl rfl (Nat.le_of_ble_eq_true rfl) ⟨Nat.zero_le _, Nat.zero_le _⟩ dX12_bill_4 (fun r3 M2 H locs hp1 hP hS => ?_)
  obtain ⟨vf2_4, sf2_5, hg2_6, rfl, g7, g8, g9, fr10⟩ := hp1
  exact q_wzret X hr hlocks hP hS (rfl) ⟨_, _, _, (by rfl), g7, g8, g9, (fun q n0 n1 n2 => (fr10 q n0 n1 n2))⟩ dX12_bill_7
set_option maxRecDepth 20000 in
theorem fX12_lawful_40 : FL wsX12_lawful RX12 40 11 4 := ⟨RX12, TX12, 14, rfl, by decide +kernel, by decide, by decide +kernel⟩
theorem yd_X7_law : YD yX7_law 0 := ⟨by decide +kernel, by decide +kernel, by decide +kernel⟩
def s_X12_lawful (nt : Nat) (nc : Nat) (cf : Nat → Int32) (tf : Nat → Int32) (plf : Nat → Int32) : Int32 := ((if loS (fun c => ovS nt cf tf plf (nI c)) nc 0 = -1 then lwS (fun c => taS plf (nI c) nt) (fun b k => hkS nt tf b k) nc 0 else 20 + loS (fun c => ovS nt cf tf plf (nI c)) nc 0))
set_option maxHeartbeats 4000000 in
set_option maxRecDepth 100000 in
theorem c_X12_lawful (l : Launch) (D : va_G) (cB cI cJ : ClassId) (ad : Nat → Nat) (n : Nat) (M : Nat → va_E) (po ta h h2 re g o g2 o2 kb an sc tr : Nat) (ik fp : Int32) (nt nc : Nat) (op : Int32) (hv cf tf plf : Nat → Int32) (h_po : po < n) (h_g : g < n) (h_g_1 : g + 1 < n) (h_g_2 : g + 2 < n) (h_h : h < n) (h_h_5 : h + 5 < n) (h_h_6 : h + 6 < n) (h_h_3 : h + 3 < n) (h_h_4 : h + 4 < n) (m_po : M po = .inr (11, poF ad po ta h h2 re g o g2 o2 ik fp kb an sc tr)) (m_g : M g = .inr (7, standF ad g h op)) (m_g_1 : M (g + 1) = .inr (8, [.int 1, .ref (ad (g + 2))])) (m_g_2 : M (g + 2) = .inl (cI, 12, .inl plf)) (m_h : M h = .inr (0, hallF ad h hv)) (m_h_5 : M (h + 5) = .inr (8, [.int 7, .ref (ad (h + 6))])) (m_h_6 : M (h + 6) = .inl (cI, 84, .inl tf)) (m_h_3 : M (h + 3) = .inr (8, [.int 5, .ref (ad (h + 4))])) (m_h_4 : M (h + 4) = .inl (cI, 25, .inl cf)) (h7 : hv 7 = nI nt) (hnt : nt ≤ 12) (h6 : hv 6 = nI nc) (hnc : nc ≤ 5) : cR l D cB cI cJ ad n M yX12_lawful wsX12_lawful 6 133 [.ref (ad po)] (s_X12_lawful nt nc cf tf plf) := by
  refine q_body (cc := cX12_lawful) (maxL := 1) (ret := (some .int)) (by decide) rfl (Nat.le_of_ble_eq_true rfl) ?_
  intro p e s m args below meth c ls X hr hlocks hK hP hl
  obtain ⟨hx, hb, hml, hown, hts⟩ := id X
  have hS : va_S (ipA ad n) s.heap s.heap [] := va_S.rf
  have hl : lv_has ls 1 [(0, .ref (ad po))] := hl
  refine lv_aload_n hx hb dX12_lawful_0 rfl (lv_at hl 0 rfl) ?_
  refine q_get (v := .ref (ad g)) (fs := poF ad po ta h h2 re g o g2 o2 ik fp kb an sc tr) X hK hP fX12_lawful_40 h_po m_po rfl dX12_lawful_1 ?_
  refine q_rdV (As := []) (rest := []) (c_X7_law l D cB cI cJ ad n M g h nt nc op hv cf tf plf h_g h_g_1 h_g_2 h_h h_h_5 h_h_6 h_h_3 h_h_4 m_g m_g_1 m_g_2 m_h m_h_5 m_h_6 m_h_3 m_h_4 h7 hnt h6 hnc) X hK hP hS hl.1 rfl gX12_lawful_X7_law yd_X7_law ⟨Nat.le_of_ble_eq_true rfl, Nat.le_of_ble_eq_true rfl⟩ h_g m_g (ci := 7) rfl rfl (Nat.le_of_ble_eq_true rfl) ⟨Nat.zero_le _, Nat.zero_le _⟩ dX12_lawful_4 ?_
  exact q_iret hb hx hr hlocks (by rfl) dX12_lawful_7
set_option maxRecDepth 20000 in
theorem fX12_undo_47 : FL wsX12_undo RX12 47 11 5 := ⟨RX12, TX12, 14, rfl, by decide +kernel, by decide, by decide +kernel⟩
set_option maxRecDepth 20000 in
theorem fX12_undo_143 : FL wsX12_undo RX12 143 1 1 := ⟨RX1, TX1, 5, rfl, by decide +kernel, by decide, by decide +kernel⟩
set_option maxRecDepth 20000 in
theorem fX12_undo_40 : FL wsX12_undo RX12 40 11 4 := ⟨RX12, TX12, 14, rfl, by decide +kernel, by decide, by decide +kernel⟩
theorem yd_X1_takeBackAct : YD yX1_takeBackAct 1 := ⟨by decide +kernel, by decide +kernel, by decide +kernel⟩
def s_X12_undo (ak : Int32) : Int32 := if ak = 0 then (-1) else (ak - 1)
def s_X12_undo_0_1 (ak : Int32) : Int32 := if ak = 0 then ak else (ak - 1)
def s_X12_undo_1_2 (ak : Int32) (op : Int32) (af : Nat → Int32) : Int32 := if ak = 0 then op else (tat 120 af ((ak - 1) * 3 + 2))
def s_X12_undo_2_f (ak : Int32) (af : Nat → Int32) (plf : Nat → Int32) : Nat → Int32 := if ak = 0 then plf else (tset 12 plf (tat 120 af ((ak - 1) * 3 + 0)) (tat 120 af ((ak - 1) * 3 + 1)))
set_option maxHeartbeats 4000000 in
set_option maxRecDepth 100000 in
theorem c_X12_undo (l : Launch) (D : va_G) (cB cI cJ : ClassId) (ad : Nat → Nat) (n : Nat) (M : Nat → va_E) (hI : ipI ad n) (po ta h h2 re g o g2 o2 kb an sc tr : Nat) (ik fp : Int32) (ak sk op : Int32) (af plf : Nat → Int32) (h_po : po < n) (h_o : o < n) (h_o_1 : o + 1 < n) (h_o_2 : o + 2 < n) (h_g : g < n) (h_g_1 : g + 1 < n) (h_g_2 : g + 2 < n) (m_po : M po = .inr (11, poF ad po ta h h2 re g o g2 o2 ik fp kb an sc tr)) (m_o : M o = .inr (1, logF ad o ak sk)) (m_o_1 : M (o + 1) = .inr (8, [.int 3, .ref (ad (o + 2))])) (m_o_2 : M (o + 2) = .inl (cI, 120, .inl af)) (m_g : M g = .inr (7, standF ad g h op)) (m_g_1 : M (g + 1) = .inr (8, [.int 1, .ref (ad (g + 2))])) (m_g_2 : M (g + 2) = .inl (cI, 12, .inl plf)) (hog : o + 6 < g ∨ g + 2 < o) (hpo : po < o ∨ o + 6 < po) (hpg : po < g ∨ g + 2 < po) : cWi l D cB cI cJ ad n M yX12_undo wsX12_undo 3 66 [.ref (ad po)] (fun r M' => r = s_X12_undo ak ∧ M' o = .inr (1, logF ad o (s_X12_undo_0_1 ak) sk) ∧ M' g = .inr (7, standF ad g h (s_X12_undo_1_2 ak op af)) ∧ M' (g + 2) = .inl (cI, 12, .inl (s_X12_undo_2_f ak af plf)) ∧ ∀ q : Nat, q ≠ o → q ≠ g → q ≠ g + 2 → M' q = M q) := by
  refine q_body (cc := cX12_undo) (maxL := 1) (ret := (some .int)) (by decide) rfl (Nat.le_of_ble_eq_true rfl) ?_
  intro p e s m args below meth c ls X hr hlocks hK hP hl
  obtain ⟨hx, hb, hml, hown, hts⟩ := id X
  have hS : va_S (ipA ad n) s.heap s.heap [] := va_S.rf
  have hl : lv_has ls 1 [(0, .ref (ad po))] := hl
  refine lv_aload_n hx hb dX12_undo_0 rfl (lv_at hl 0 rfl) ?_
  refine q_get (v := .ref (ad o)) (fs := poF ad po ta h h2 re g o g2 o2 ik fp kb an sc tr) X hK hP fX12_undo_47 h_po m_po rfl dX12_undo_1 ?_
  refine q_get (v := .int ak) (fs := logF ad o ak sk) X hK hP fX12_undo_143 h_o m_o rfl dX12_undo_4 ?_
  refine lv_if_ne (tgt := 12) hx hb dX12_undo_7 (by decide) (fun c_7 => ?_) (fun c_7 => ?_)
  · skip
    refine lv_aload_n hx hb dX12_undo_12 rfl (lv_at hl 0 rfl) ?_
    refine q_get (v := .ref (ad o)) (fs := poF ad po ta h h2 re g o g2 o2 ik fp kb an sc tr) X hK hP fX12_undo_47 h_po m_po rfl dX12_undo_13 ?_
    refine lv_aload_n hx hb dX12_undo_16 rfl (lv_at hl 0 rfl) ?_
    refine q_get (v := .ref (ad g)) (fs := poF ad po ta h h2 re g o g2 o2 ik fp kb an sc tr) X hK hP fX12_undo_40 h_po m_po rfl dX12_undo_17 ?_
    refine q_wrVv (As := [.ref (ad g)]) (rest := []) (c_X1_takeBackAct l D cB cI cJ ad n M hI o g h ak sk op af plf h_o h_o_1 h_o_2 h_g h_g_1 h_g_2 m_o m_o_1 m_o_2 m_g m_g_1 m_g_2 hog) X hK hP hS hl.1 rfl gX12_undo_X1_takeBackAct yd_X1_takeBackAct ⟨Nat.le_of_ble_eq_true rfl, Nat.le_of_ble_eq_true rfl⟩ h_o m_o (ci := 1) rfl rfl (Nat.le_of_ble_eq_true rfl) ⟨Nat.zero_le _, Nat.zero_le _⟩ dX12_undo_20 (fun M2 H locs hp1 hP hS => ?_)
    obtain ⟨g4, g5, g6, fr7⟩ := hp1
    refine lv_aload_n hx hb dX12_undo_23 rfl (lv_at hl 0 rfl) ?_
    refine q_get (v := .ref (ad o)) (fs := poF ad po ta h h2 re g o g2 o2 ik fp kb an sc tr) X hK hP fX12_undo_47 h_po ((fr7 po (by omega) (by omega) (by omega)).trans m_po) rfl dX12_undo_24 ?_
    refine q_get (v := .int (ak - 1)) (fs := logF ad o (ak - 1) sk) X hK hP fX12_undo_143 h_o g4 rfl dX12_undo_27 ?_
    exact q_wzret X hr hlocks hP hS (rfl) ⟨(by rw [s_X12_undo, if_neg c_7]), (by rw [s_X12_undo_0_1, if_neg c_7]; exact g4), (by rw [s_X12_undo_1_2, if_neg c_7]; exact g5), (by rw [s_X12_undo_2_f, if_neg c_7]; exact g6), (fun q n0 n1 n2 => (fr7 q n0 n1 n2))⟩ dX12_undo_30
  · skip
    refine lv_iconst (v := (-1)) hx hb dX12_undo_10 (by decide) ?_
    exact q_wzret X hr hlocks hP hS (rfl) ⟨(by rw [s_X12_undo, if_pos c_7]), (by rw [s_X12_undo_0_1, if_pos c_7]; exact m_o), (by rw [s_X12_undo_1_2, if_pos c_7]; exact m_g), (by rw [s_X12_undo_2_f, if_pos c_7]; exact m_g_2), (fun q n0 n1 n2 => rfl)⟩ dX12_undo_11
set_option maxRecDepth 20000 in
theorem fX12_opened_64 : FL wsX12_opened RX12 64 11 10 := ⟨RX12, TX12, 14, rfl, by decide +kernel, by decide, by decide +kernel⟩
set_option maxRecDepth 20000 in
theorem fX12_opened_40 : FL wsX12_opened RX12 40 11 4 := ⟨RX12, TX12, 14, rfl, by decide +kernel, by decide, by decide +kernel⟩
theorem yd_X2_cheapestSet : YD yX2_cheapestSet 1 := ⟨by decide +kernel, by decide +kernel, by decide +kernel⟩
def s_X12_opened (nz : Nat) (nt : Nat) (nc : Nat) (np : Nat) (op : Int32) (pf : Nat → Int32) (cf : Nat → Int32) (tf : Nat → Int32) (plf : Nat → Int32) (itf : Nat → Int32) (ref : Nat → Int32) (tkf : Nat → Int32) : Int32 := (s_X2_cheapestSet nz nt nc np op pf cf tf plf itf ref tkf)
set_option maxHeartbeats 4000000 in
set_option maxRecDepth 100000 in
theorem c_X12_opened (l : Launch) (D : va_G) (cB cI cJ : ClassId) (ad : Nat → Nat) (n : Nat) (M : Nat → va_E) (hI : ipI ad n) (po ta h h2 re g o g2 o2 kb an sc tr : Nat) (ik fp : Int32) (nz nt nc np : Nat) (op : Int32) (hv pf cf tf plf itf ref tkf : Nat → Int32) (h_po : po < n) (h_kb : kb < n) (h_kb_1 : kb + 1 < n) (h_kb_2 : kb + 2 < n) (h_kb_3 : kb + 3 < n) (h_kb_4 : kb + 4 < n) (h_kb_5 : kb + 5 < n) (h_kb_6 : kb + 6 < n) (h_g : g < n) (h_g_1 : g + 1 < n) (h_g_2 : g + 2 < n) (h_h : h < n) (h_h_5 : h + 5 < n) (h_h_6 : h + 6 < n) (h_h_1 : h + 1 < n) (h_h_2 : h + 2 < n) (h_h_3 : h + 3 < n) (h_h_4 : h + 4 < n) (m_po : M po = .inr (11, poF ad po ta h h2 re g o g2 o2 ik fp kb an sc tr)) (m_kb : M kb = .inr (2, packF ad kb)) (m_kb_1 : M (kb + 1) = .inr (8, [.int 1, .ref (ad (kb + 2))])) (m_kb_2 : M (kb + 2) = .inl (cI, 8, .inl itf)) (m_kb_3 : M (kb + 3) = .inr (8, [.int 1, .ref (ad (kb + 4))])) (m_kb_4 : M (kb + 4) = .inl (cI, 256, .inl ref)) (m_kb_5 : M (kb + 5) = .inr (8, [.int 1, .ref (ad (kb + 6))])) (m_kb_6 : M (kb + 6) = .inl (cI, 256, .inl tkf)) (m_g : M g = .inr (7, standF ad g h op)) (m_g_1 : M (g + 1) = .inr (8, [.int 1, .ref (ad (g + 2))])) (m_g_2 : M (g + 2) = .inl (cI, 12, .inl plf)) (m_h : M h = .inr (0, hallF ad h hv)) (m_h_5 : M (h + 5) = .inr (8, [.int 7, .ref (ad (h + 6))])) (m_h_6 : M (h + 6) = .inl (cI, 84, .inl tf)) (m_h_1 : M (h + 1) = .inr (8, [.int 3, .ref (ad (h + 2))])) (m_h_2 : M (h + 2) = .inl (cI, 12, .inl pf)) (m_h_3 : M (h + 3) = .inr (8, [.int 5, .ref (ad (h + 4))])) (m_h_4 : M (h + 4) = .inl (cI, 25, .inl cf)) (h7 : hv 7 = nI nt) (hnt : nt ≤ 12) (h6 : hv 6 = nI nc) (hnc : nc ≤ 5) (h5 : hv 5 = nI np) (hnp : np ≤ 4) (hkh : kb + 6 < h ∨ h + 15 < kb) (hkg : kb + 6 < g ∨ g + 2 < kb) (hz : 1 <<< ((hv 6) &&& 31) = nI nz) (hnz : nz ≤ 32) : cWi l D cB cI cJ ad n M yX12_opened wsX12_opened 6 148 [.ref (ad po)] (fun r M' => ∃ (v0__ : Nat → Int32) (v1__ : Nat → Int32) (v2__ : Nat → Int32), r = s_X12_opened nz nt nc np op pf cf tf plf itf ref tkf ∧ M' (kb + 2) = .inl (cI, 8, .inl v0__) ∧ M' (kb + 4) = .inl (cI, 256, .inl v1__) ∧ M' (kb + 6) = .inl (cI, 256, .inl v2__) ∧ ∀ q : Nat, q ≠ kb + 2 → q ≠ kb + 4 → q ≠ kb + 6 → M' q = M q) := by
  refine q_body (cc := cX12_opened) (maxL := 1) (ret := (some .int)) (by decide) rfl (Nat.le_of_ble_eq_true rfl) ?_
  intro p e s m args below meth c ls X hr hlocks hK hP hl
  obtain ⟨hx, hb, hml, hown, hts⟩ := id X
  have hS : va_S (ipA ad n) s.heap s.heap [] := va_S.rf
  have hl : lv_has ls 1 [(0, .ref (ad po))] := hl
  refine lv_aload_n hx hb dX12_opened_0 rfl (lv_at hl 0 rfl) ?_
  refine q_get (v := .ref (ad kb)) (fs := poF ad po ta h h2 re g o g2 o2 ik fp kb an sc tr) X hK hP fX12_opened_64 h_po m_po rfl dX12_opened_1 ?_
  refine lv_aload_n hx hb dX12_opened_4 rfl (lv_at hl 0 rfl) ?_
  refine q_get (v := .ref (ad g)) (fs := poF ad po ta h h2 re g o g2 o2 ik fp kb an sc tr) X hK hP fX12_opened_40 h_po m_po rfl dX12_opened_5 ?_
  refine q_wrVi (As := [.ref (ad g)]) (rest := []) (c_X2_cheapestSet l D cB cI cJ ad n M hI kb g h nz nt nc np op hv pf cf tf plf itf ref tkf h_kb h_kb_1 h_kb_2 h_kb_3 h_kb_4 h_kb_5 h_kb_6 h_g h_g_1 h_g_2 h_h h_h_5 h_h_6 h_h_1 h_h_2 h_h_3 h_h_4 m_kb m_kb_1 m_kb_2 m_kb_3 m_kb_4 m_kb_5 m_kb_6 m_g m_g_1 m_g_2 m_h m_h_5 m_h_6 m_h_1 m_h_2 m_h_3 m_h_4 h7 hnt h6 hnc h5 hnp hkh hkg hz hnz) X hK hP hS hl.1 rfl gX12_opened_X2_cheapestSet yd_X2_cheapestSet ⟨Nat.le_of_ble_eq_true rfl, Nat.le_of_ble_eq_true rfl⟩ h_kb m_kb (ci := 2) rfl rfl (Nat.le_of_ble_eq_true rfl) ⟨Nat.zero_le _, Nat.zero_le _⟩ dX12_opened_8 (fun r3 M2 H locs hp1 hP hS => ?_)
  obtain ⟨v0___4, v1___5, v2___6, rfl, g7, g8, g9, fr10⟩ := hp1
  exact q_wzret X hr hlocks hP hS (rfl) ⟨_, _, _, (by rfl), g7, g8, g9, (fun q n0 n1 n2 => (fr10 q n0 n1 n2))⟩ dX12_opened_11
set_option maxRecDepth 20000 in
theorem fX12_safe_19 : FL wsX12_safe RX12 19 11 1 := ⟨RX12, TX12, 14, rfl, by decide +kernel, by decide, by decide +kernel⟩
set_option maxRecDepth 20000 in
theorem fX12_safe_125 : FL wsX12_safe RX12 125 0 6 := ⟨RX0, TX0, 12, rfl, by decide +kernel, by decide, by decide +kernel⟩
set_option maxRecDepth 20000 in
theorem fX12_safe_40 : FL wsX12_safe RX12 40 11 4 := ⟨RX12, TX12, 14, rfl, by decide +kernel, by decide, by decide +kernel⟩
theorem yd_X7_withoutShirtIfLost : YD yX7_withoutShirtIfLost 1 := ⟨by decide +kernel, by decide +kernel, by decide +kernel⟩
def s_X12_safe_4s (nt : Nat) (nc : Nat) (np : Nat) (cf : Nat → Int32) (tf : Nat → Int32) (plf : Nat → Int32) (t4 : Nat) (x4_1 : Int32) : Int32 := if (noShS (fun x lo => hkS nt tf (hsS nt cf plf x lo nc) 5) (nI t4) np) = 0 then (x4_1 ||| (1 <<< ((nI t4) &&& 31))) else x4_1
def s_X12_safe_4 (nt : Nat) (nc : Nat) (np : Nat) (cf : Nat → Int32) (tf : Nat → Int32) (plf : Nat → Int32) (z0 : Int32) : Nat → Int32
  | 0 => z0
  | t + 1 => s_X12_safe_4s nt nc np cf tf plf t (s_X12_safe_4 nt nc np cf tf plf z0 t)
def s_X12_safe (nt : Nat) (nc : Nat) (np : Nat) (cf : Nat → Int32) (tf : Nat → Int32) (plf : Nat → Int32) : Int32 := (s_X12_safe_4 nt nc np cf tf plf 0 nc)
set_option maxHeartbeats 4000000 in
set_option maxRecDepth 100000 in
theorem c_X12_safe (l : Launch) (D : va_G) (cB cI cJ : ClassId) (ad : Nat → Nat) (n : Nat) (M : Nat → va_E) (po ta h h2 re g o g2 o2 kb an sc tr : Nat) (ik fp : Int32) (nt nc np : Nat) (op : Int32) (hv cf tf plf : Nat → Int32) (h_po : po < n) (h_g : g < n) (h_g_1 : g + 1 < n) (h_g_2 : g + 2 < n) (h_h : h < n) (h_h_5 : h + 5 < n) (h_h_6 : h + 6 < n) (h_h_3 : h + 3 < n) (h_h_4 : h + 4 < n) (m_po : M po = .inr (11, poF ad po ta h h2 re g o g2 o2 ik fp kb an sc tr)) (m_g : M g = .inr (7, standF ad g h op)) (m_g_1 : M (g + 1) = .inr (8, [.int 1, .ref (ad (g + 2))])) (m_g_2 : M (g + 2) = .inl (cI, 12, .inl plf)) (m_h : M h = .inr (0, hallF ad h hv)) (m_h_5 : M (h + 5) = .inr (8, [.int 7, .ref (ad (h + 6))])) (m_h_6 : M (h + 6) = .inl (cI, 84, .inl tf)) (m_h_3 : M (h + 3) = .inr (8, [.int 5, .ref (ad (h + 4))])) (m_h_4 : M (h + 4) = .inl (cI, 25, .inl cf)) (h7 : hv 7 = nI nt) (hnt : nt ≤ 12) (h6 : hv 6 = nI nc) (hnc : nc ≤ 5) (h5 : hv 5 = nI np) (hnp : np ≤ 4) : cR l D cB cI cJ ad n M yX12_safe wsX12_safe 5 115 [.ref (ad po)] (s_X12_safe nt nc np cf tf plf) := by
  refine q_body (cc := cX12_safe) (maxL := 3) (ret := (some .int)) (by decide) rfl (Nat.le_of_ble_eq_true rfl) ?_
  intro p e s m args below meth c ls X hr hlocks hK hP hl
  obtain ⟨hx, hb, hml, hown, hts⟩ := id X
  have hS : va_S (ipA ad n) s.heap s.heap [] := va_S.rf
  have hl : lv_has ls 3 [(0, .ref (ad po))] := hl
  refine lv_iconst (v := 0) hx hb dX12_safe_0 (by decide) ?_
  refine lv_istore_n (lv' := [(1, .int 0), (0, .ref (ad po))]) hx hb dX12_safe_1 rfl hl (by decide) rfl (fun ls hl => ?_)
  refine lv_iconst (v := 0) hx hb dX12_safe_2 (by decide) ?_
  refine lv_istore_n (lv' := [(2, .int 0), (1, .int 0), (0, .ref (ad po))]) hx hb dX12_safe_3 rfl hl (by decide) rfl (fun ls hl => ?_)
  have loop_4 : ∀ (fuel : Nat) (t4 : Nat) (x4_1 : Int32), nc - (t4) < fuel → t4 ≤ nc → x4_1 = (s_X12_safe_4 nt nc np cf tf plf 0 t4) → ∀ (ls : Array Slot), lv_has ls 3 [(2, .int (nI t4)), (1, .int x4_1), (0, .ref (ad po))] → W p l e (rmOf 5 115) s m args below meth c s.heap [] 0 0 (MQ below (vp_Si (fun r9 => r9 = s_X12_safe nt nc np cf tf plf)) args s 0 0 (fun _ => False)) (F0 m 4 ls []) := by
    intro fuel
    induction fuel with
    | zero =>
      intro t4 x4_1 hz
      exact absurd hz (Nat.not_lt_zero _)
    | succ fuel ih_4 =>
      intro t4 x4_1 hz_4 h_t4 e_x4_1 ls hl
      skip
      refine lv_iload_n hx hb dX12_safe_4 rfl (lv_at hl 0 rfl) ?_
      refine lv_aload_n hx hb dX12_safe_5 rfl (lv_at hl 2 rfl) ?_
      refine q_get (v := .ref (ad h)) (fs := poF ad po ta h h2 re g o g2 o2 ik fp kb an sc tr) X hK hP fX12_safe_19 h_po m_po rfl dX12_safe_6 ?_
      refine q_get (v := .int (hv 6)) (fs := hallF ad h hv) X hK hP fX12_safe_125 h_h m_h rfl dX12_safe_9 ?_
      refine lv_icmp_ge (tgt := 38) hx hb dX12_safe_12 (by decide) (fun c_12 => ?_) (fun c_12 => ?_)
      · rw [h6] at c_12
        have h9_4 : t4 = nc := eq_of_le (t := t4) (k := nc) c_12 (by omega) h_t4
        subst t4
        subst e_x4_1
        refine lv_iload_n hx hb dX12_safe_38 rfl (lv_at hl 1 rfl) ?_
        exact q_iret hb hx hr hlocks (by rfl) dX12_safe_39
      · rw [h6] at c_12
        have h9_4 : t4 < nc := lt_of_nlt (t := t4) (k := nc) c_12 (by omega) h_t4
        refine lv_aload_n hx hb dX12_safe_15 rfl (lv_at hl 2 rfl) ?_
        refine q_get (v := .ref (ad g)) (fs := poF ad po ta h h2 re g o g2 o2 ik fp kb an sc tr) X hK hP fX12_safe_40 h_po m_po rfl dX12_safe_16 ?_
        refine lv_iload_n hx hb dX12_safe_19 rfl (lv_at hl 0 rfl) ?_
        refine q_rdV (As := [.int (nI t4)]) (rest := []) (c_X7_withoutShirtIfLost l D cB cI cJ ad n M g h nt nc np op hv cf tf plf (nI t4) h_g h_g_1 h_g_2 h_h h_h_5 h_h_6 h_h_3 h_h_4 m_g m_g_1 m_g_2 m_h m_h_5 m_h_6 m_h_3 m_h_4 h7 hnt h6 hnc h5 hnp) X hK hP hS hl.1 rfl gX12_safe_X7_withoutShirtIfLost yd_X7_withoutShirtIfLost ⟨Nat.le_of_ble_eq_true rfl, Nat.le_of_ble_eq_true rfl⟩ h_g m_g (ci := 7) rfl rfl (Nat.le_of_ble_eq_true rfl) ⟨Nat.zero_le _, Nat.zero_le _⟩ dX12_safe_20 ?_
        refine lv_if_ne (tgt := 32) hx hb dX12_safe_23 (by decide) (fun c_23 => ?_) (fun c_23 => ?_)
        · skip
          refine lv_iinc (v := ((nI t4) + 1)) (lv' := [(2, .int ((nI t4) + 1)), (1, .int x4_1), (0, .ref (ad po))]) hx hb dX12_safe_32 hl (k := 0) rfl rfl (by decide) rfl (fun ls hl => ?_)
          refine lv_goto (tgt := 4) hx hb dX12_safe_35 (by decide) ?_
          exact ih_4 (t4 + 1) x4_1 (by omega) (by omega) (by rw [s_X12_safe_4, ← e_x4_1, s_X12_safe_4s, if_neg c_23]) ls (by rw [(show nI (t4 + 1) = nI t4 + 1 by exact nI_succ _)]; exact lv_sub hl [0, 1, 2] rfl)
        · skip
          refine lv_iload_n hx hb dX12_safe_26 rfl (lv_at hl 1 rfl) ?_
          refine lv_iconst (v := 1) hx hb dX12_safe_27 (by decide) ?_
          refine lv_iload_n hx hb dX12_safe_28 rfl (lv_at hl 0 rfl) ?_
          refine lv_ishl hx hb dX12_safe_29 ?_
          refine lv_ior hx hb dX12_safe_30 ?_
          refine lv_istore_n (lv' := [(1, .int (x4_1 ||| (1 <<< ((nI t4) &&& 31)))), (2, .int (nI t4)), (0, .ref (ad po))]) hx hb dX12_safe_31 rfl hl (by decide) rfl (fun ls hl => ?_)
          refine lv_iinc (v := ((nI t4) + 1)) (lv' := [(2, .int ((nI t4) + 1)), (1, .int (x4_1 ||| (1 <<< ((nI t4) &&& 31)))), (0, .ref (ad po))]) hx hb dX12_safe_32 hl (k := 1) rfl rfl (by decide) rfl (fun ls hl => ?_)
          refine lv_goto (tgt := 4) hx hb dX12_safe_35 (by decide) ?_
          exact ih_4 (t4 + 1) (x4_1 ||| (1 <<< ((nI t4) &&& 31))) (by omega) (by omega) (by rw [s_X12_safe_4, ← e_x4_1, s_X12_safe_4s, if_pos c_23]) ls (by rw [(show nI (t4 + 1) = nI t4 + 1 by exact nI_succ _)]; exact lv_sub hl [0, 1, 2] rfl)
  exact loop_4 (nc + 1) 0 0 (by omega) (by omega) (by rfl) ls (lv_sub hl [0, 1, 2] rfl)
set_option maxRecDepth 20000 in
theorem fX12_share_71 : FL wsX12_share RX12 71 11 11 := ⟨RX12, TX12, 14, rfl, by decide +kernel, by decide, by decide +kernel⟩
set_option maxRecDepth 20000 in
theorem fX12_share_40 : FL wsX12_share RX12 40 11 4 := ⟨RX12, TX12, 14, rfl, by decide +kernel, by decide, by decide +kernel⟩
theorem yd_X3_leastShare : YD yX3_leastShare 1 := ⟨by decide +kernel, by decide +kernel, by decide +kernel⟩
def s_X12_share (nz : Nat) (nt : Nat) (nc : Nat) (np : Nat) (hv : Nat → Int32) (pf : Nat → Int32) (tf : Nat → Int32) (plf : Nat → Int32) (caf : Nat → Int32) (wef : Nat → Int32) : Int32 := (s_X3_leastShare nz nt nc np hv pf tf plf caf wef)
set_option maxHeartbeats 4000000 in
set_option maxRecDepth 100000 in
theorem c_X12_share (l : Launch) (D : va_G) (cB cI cJ : ClassId) (ad : Nat → Nat) (n : Nat) (M : Nat → va_E) (hI : ipI ad n) (po ta h h2 re g o g2 o2 kb an sc tr : Nat) (ik fp : Int32) (nz nt nc np : Nat) (tof fk ck op : Int32) (hv pf tf plf caf rwf wef : Nat → Int32) (h_po : po < n) (h_an : an < n) (h_an_7 : an + 7 < n) (h_an_8 : an + 8 < n) (h_an_9 : an + 9 < n) (h_an_10 : an + 10 < n) (h_an_11 : an + 11 < n) (h_an_12 : an + 12 < n) (h_g : g < n) (h_g_1 : g + 1 < n) (h_g_2 : g + 2 < n) (h_h : h < n) (h_h_5 : h + 5 < n) (h_h_6 : h + 6 < n) (h_h_1 : h + 1 < n) (h_h_2 : h + 2 < n) (m_po : M po = .inr (11, poF ad po ta h h2 re g o g2 o2 ik fp kb an sc tr)) (m_an : M an = .inr (3, plansF ad an tof fk ck)) (m_an_7 : M (an + 7) = .inr (8, [.int 1, .ref (ad (an + 8))])) (m_an_8 : M (an + 8) = .inl (cI, 5, .inl caf)) (m_an_9 : M (an + 9) = .inr (8, [.int 1, .ref (ad (an + 10))])) (m_an_10 : M (an + 10) = .inl (cI, 5, .inl rwf)) (m_an_11 : M (an + 11) = .inr (8, [.int 1, .ref (ad (an + 12))])) (m_an_12 : M (an + 12) = .inl (cI, 5, .inl wef)) (m_g : M g = .inr (7, standF ad g h op)) (m_g_1 : M (g + 1) = .inr (8, [.int 1, .ref (ad (g + 2))])) (m_g_2 : M (g + 2) = .inl (cI, 12, .inl plf)) (m_h : M h = .inr (0, hallF ad h hv)) (m_h_5 : M (h + 5) = .inr (8, [.int 7, .ref (ad (h + 6))])) (m_h_6 : M (h + 6) = .inl (cI, 84, .inl tf)) (m_h_1 : M (h + 1) = .inr (8, [.int 3, .ref (ad (h + 2))])) (m_h_2 : M (h + 2) = .inl (cI, 12, .inl pf)) (h7 : hv 7 = nI nt) (hnt : nt ≤ 12) (h6 : hv 6 = nI nc) (hnc : nc ≤ 5) (h5 : hv 5 = nI np) (hnp : np ≤ 4) (hah : an + 12 < h ∨ h + 15 < an) (hag : an + 12 < g ∨ g + 2 < an) (hz : (s_X3_leastShare_19 nt hv tf plf 1 wef nc).1 = nI nz) (hnz : nz ≤ 1024) : cWi l D cB cI cJ ad n M yX12_share wsX12_share 4 94 [.ref (ad po)] (fun r M' => r = s_X12_share nz nt nc np hv pf tf plf caf wef ∧ M' an = .inr (3, plansF ad an tof fk (s_X3_leastShare_0_3 ck hv)) ∧ M' (an + 8) = .inl (cI, 5, .inl (s_X3_leastShare_1_f nz nt nc np hv pf tf plf caf wef)) ∧ M' (an + 10) = .inl (cI, 5, .inl (s_X3_leastShare_2_f nz nt nc np hv pf tf plf caf rwf wef)) ∧ M' (an + 12) = .inl (cI, 5, .inl (s_X3_leastShare_3_f nt nc hv tf plf wef)) ∧ ∀ q : Nat, q ≠ an → q ≠ an + 8 → q ≠ an + 10 → q ≠ an + 12 → M' q = M q) := by
  refine q_body (cc := cX12_share) (maxL := 1) (ret := (some .int)) (by decide) rfl (Nat.le_of_ble_eq_true rfl) ?_
  intro p e s m args below meth c ls X hr hlocks hK hP hl
  obtain ⟨hx, hb, hml, hown, hts⟩ := id X
  have hS : va_S (ipA ad n) s.heap s.heap [] := va_S.rf
  have hl : lv_has ls 1 [(0, .ref (ad po))] := hl
  refine lv_aload_n hx hb dX12_share_0 rfl (lv_at hl 0 rfl) ?_
  refine q_get (v := .ref (ad an)) (fs := poF ad po ta h h2 re g o g2 o2 ik fp kb an sc tr) X hK hP fX12_share_71 h_po m_po rfl dX12_share_1 ?_
  refine lv_aload_n hx hb dX12_share_4 rfl (lv_at hl 0 rfl) ?_
  refine q_get (v := .ref (ad g)) (fs := poF ad po ta h h2 re g o g2 o2 ik fp kb an sc tr) X hK hP fX12_share_40 h_po m_po rfl dX12_share_5 ?_
  refine q_wrVi (As := [.ref (ad g)]) (rest := []) (c_X3_leastShare l D cB cI cJ ad n M hI an g h nz nt nc np tof fk ck op hv pf tf plf caf rwf wef h_an h_an_7 h_an_8 h_an_9 h_an_10 h_an_11 h_an_12 h_g h_g_1 h_g_2 h_h h_h_5 h_h_6 h_h_1 h_h_2 m_an m_an_7 m_an_8 m_an_9 m_an_10 m_an_11 m_an_12 m_g m_g_1 m_g_2 m_h m_h_5 m_h_6 m_h_1 m_h_2 h7 hnt h6 hnc h5 hnp hah hag hz hnz) X hK hP hS hl.1 rfl gX12_share_X3_leastShare yd_X3_leastShare ⟨Nat.le_of_ble_eq_true rfl, Nat.le_of_ble_eq_true rfl⟩ h_an m_an (ci := 3) rfl rfl (Nat.le_of_ble_eq_true rfl) ⟨Nat.zero_le _, Nat.zero_le _⟩ dX12_share_8 (fun r3 M2 H locs hp1 hP hS => ?_)
  obtain ⟨rfl, g4, g5, g6, g7, fr8⟩ := hp1
  exact q_wzret X hr hlocks hP hS (rfl) ⟨(by rfl), g4, g5, g6, g7, (fun q n0 n1 n2 n3 => (fr8 q n0 n1 n2 n3))⟩ dX12_share_11
set_option maxRecDepth 20000 in
theorem fX12_forget_47 : FL wsX12_forget RX12 47 11 5 := ⟨RX12, TX12, 14, rfl, by decide +kernel, by decide, by decide +kernel⟩
set_option maxRecDepth 20000 in
theorem fX12_forget_146 : FL wsX12_forget RX12 146 1 3 := ⟨RX1, TX1, 5, rfl, by decide +kernel, by decide, by decide +kernel⟩
def s_X12_forget (sk : Int32) : Int32 := if sk = 0 then (-1) else (sk - 1)
def s_X12_forget_0_2 (sk : Int32) : Int32 := if sk = 0 then sk else (sk - 1)
set_option maxHeartbeats 4000000 in
set_option maxRecDepth 100000 in
theorem c_X12_forget (l : Launch) (D : va_G) (cB cI cJ : ClassId) (ad : Nat → Nat) (n : Nat) (M : Nat → va_E) (hI : ipI ad n) (po ta h h2 re g o g2 o2 kb an sc tr : Nat) (ik fp : Int32) (ak sk : Int32) (h_po : po < n) (h_o : o < n) (m_po : M po = .inr (11, poF ad po ta h h2 re g o g2 o2 ik fp kb an sc tr)) (m_o : M o = .inr (1, logF ad o ak sk)) (hpo : po < o ∨ o + 6 < po) : cWi l D cB cI cJ ad n M yX12_forget wsX12_forget 0 0 [.ref (ad po)] (fun r M' => r = s_X12_forget sk ∧ M' o = .inr (1, logF ad o ak (s_X12_forget_0_2 sk)) ∧ ∀ q : Nat, q ≠ o → M' q = M q) := by
  refine q_body (cc := cX12_forget) (maxL := 1) (ret := (some .int)) (by decide) rfl (Nat.le_of_ble_eq_true rfl) ?_
  intro p e s m args below meth c ls X hr hlocks hK hP hl
  obtain ⟨hx, hb, hml, hown, hts⟩ := id X
  have hS : va_S (ipA ad n) s.heap s.heap [] := va_S.rf
  have hl : lv_has ls 1 [(0, .ref (ad po))] := hl
  refine lv_aload_n hx hb dX12_forget_0 rfl (lv_at hl 0 rfl) ?_
  refine q_get (v := .ref (ad o)) (fs := poF ad po ta h h2 re g o g2 o2 ik fp kb an sc tr) X hK hP fX12_forget_47 h_po m_po rfl dX12_forget_1 ?_
  refine q_get (v := .int sk) (fs := logF ad o ak sk) X hK hP fX12_forget_146 h_o m_o rfl dX12_forget_4 ?_
  refine lv_if_ne (tgt := 12) hx hb dX12_forget_7 (by decide) (fun c_7 => ?_) (fun c_7 => ?_)
  · skip
    refine lv_aload_n hx hb dX12_forget_12 rfl (lv_at hl 0 rfl) ?_
    refine q_get (v := .ref (ad o)) (fs := poF ad po ta h h2 re g o g2 o2 ik fp kb an sc tr) X hK hP fX12_forget_47 h_po m_po rfl dX12_forget_13 ?_
    refine lv_dup hx hb dX12_forget_16 rfl ?_
    refine q_get (v := .int sk) (fs := logF ad o ak sk) X hK hP fX12_forget_146 h_o m_o rfl dX12_forget_17 ?_
    refine lv_iconst (v := 1) hx hb dX12_forget_20 (by decide) ?_
    refine lv_isub hx hb dX12_forget_21 ?_
    refine q_put (fs := logF ad o ak sk) (fs' := logF ad o ak (sk - 1)) X hK hI hP hS fX12_forget_146 fw_1_3 h_o m_o rfl rfl (Nat.le_of_ble_eq_true rfl) rfl dX12_forget_22 (fun H locs hP hS => ?_)
    refine lv_aload_n hx hb dX12_forget_25 rfl (lv_at hl 0 rfl) ?_
    refine q_get (v := .ref (ad o)) (fs := poF ad po ta h h2 re g o g2 o2 ik fp kb an sc tr) X hK hP fX12_forget_47 h_po ((va_up_ne M (.inr (1, logF ad o ak (sk - 1))) (show po ≠ o by omega)).trans m_po) rfl dX12_forget_26 ?_
    refine q_get (v := .int (sk - 1)) (fs := logF ad o ak (sk - 1)) X hK hP fX12_forget_146 h_o (va_up_self M o (.inr (1, logF ad o ak (sk - 1)))) rfl dX12_forget_29 ?_
    exact q_wzret X hr hlocks hP hS (rfl) ⟨(by rw [s_X12_forget, if_neg c_7]), (by rw [s_X12_forget_0_2, if_neg c_7]; exact (va_up_self M o (.inr (1, logF ad o ak (sk - 1))))), (fun q n0 => (va_up_ne _ _ n0))⟩ dX12_forget_32
  · skip
    refine lv_iconst (v := (-1)) hx hb dX12_forget_10 (by decide) ?_
    exact q_wzret X hr hlocks hP hS (rfl) ⟨(by rw [s_X12_forget, if_pos c_7]), (by rw [s_X12_forget_0_2, if_pos c_7]; exact m_o), (fun q n0 => rfl)⟩ dX12_forget_11
set_option maxRecDepth 20000 in
theorem fX12_image_51 : FL wsX12_image RX12 51 11 6 := ⟨RX12, TX12, 14, rfl, by decide +kernel, by decide, by decide +kernel⟩
set_option maxRecDepth 20000 in
theorem fX12_image_40 : FL wsX12_image RX12 40 11 4 := ⟨RX12, TX12, 14, rfl, by decide +kernel, by decide, by decide +kernel⟩
set_option maxRecDepth 20000 in
theorem fX12_image_54 : FL wsX12_image RX12 54 11 7 := ⟨RX12, TX12, 14, rfl, by decide +kernel, by decide, by decide +kernel⟩
set_option maxRecDepth 20000 in
theorem fX12_image_47 : FL wsX12_image RX12 47 11 5 := ⟨RX12, TX12, 14, rfl, by decide +kernel, by decide, by decide +kernel⟩
theorem yd_X1_become : YD yX1_become 1 := ⟨by decide +kernel, by decide +kernel, by decide +kernel⟩
set_option maxRecDepth 20000 in
theorem fX12_image_118 : FL wsX12_image RX12 118 11 8 := ⟨RX12, TX12, 14, rfl, by decide +kernel, by decide, by decide +kernel⟩
theorem fw_11_8 : FW 11 8 .boolean := ⟨RX12, TX12, 14, tyX12, rfl, tyX12_ok, nmX12, by decide, rfl, by decide +kernel⟩
set_option maxHeartbeats 4000000 in
set_option maxRecDepth 100000 in
theorem c_X12_image (l : Launch) (D : va_G) (cB cI cJ : ClassId) (ad : Nat → Nat) (n : Nat) (M : Nat → va_E) (hI : ipI ad n) (po ta h h2 re g o g2 o2 kb an sc tr : Nat) (ik fp : Int32) (h8 h9 : Nat) (ak sk ak2 sk2 op op2 : Int32) (af sf tf2 af2 sf2 tf3 plf plf2 : Nat → Int32) (h_po : po < n) (h_g : g < n) (h_g_1 : g + 1 < n) (h_g_2 : g + 2 < n) (h_g2 : g2 < n) (h_g2_1 : g2 + 1 < n) (h_g2_2 : g2 + 2 < n) (h_o : o < n) (h_o_1 : o + 1 < n) (h_o_2 : o + 2 < n) (h_o_3 : o + 3 < n) (h_o_4 : o + 4 < n) (h_o_5 : o + 5 < n) (h_o_6 : o + 6 < n) (h_o2 : o2 < n) (h_o2_1 : o2 + 1 < n) (h_o2_2 : o2 + 2 < n) (h_o2_3 : o2 + 3 < n) (h_o2_4 : o2 + 4 < n) (h_o2_5 : o2 + 5 < n) (h_o2_6 : o2 + 6 < n) (m_po : M po = .inr (11, poF ad po ta h h2 re g o g2 o2 ik fp kb an sc tr)) (m_g : M g = .inr (7, standF ad g h9 op)) (m_g_1 : M (g + 1) = .inr (8, [.int 1, .ref (ad (g + 2))])) (m_g_2 : M (g + 2) = .inl (cI, 12, .inl plf)) (m_g2 : M g2 = .inr (7, standF ad g2 h8 op2)) (m_g2_1 : M (g2 + 1) = .inr (8, [.int 1, .ref (ad (g2 + 2))])) (m_g2_2 : M (g2 + 2) = .inl (cI, 12, .inl plf2)) (m_o : M o = .inr (1, logF ad o ak sk)) (m_o_1 : M (o + 1) = .inr (8, [.int 3, .ref (ad (o + 2))])) (m_o_2 : M (o + 2) = .inl (cI, 120, .inl af)) (m_o_3 : M (o + 3) = .inr (8, [.int 2, .ref (ad (o + 4))])) (m_o_4 : M (o + 4) = .inl (cI, 12, .inl sf)) (m_o_5 : M (o + 5) = .inr (8, [.int 1, .ref (ad (o + 6))])) (m_o_6 : M (o + 6) = .inl (cI, 3, .inl tf2)) (m_o2 : M o2 = .inr (1, logF ad o2 ak2 sk2)) (m_o2_1 : M (o2 + 1) = .inr (8, [.int 3, .ref (ad (o2 + 2))])) (m_o2_2 : M (o2 + 2) = .inl (cI, 120, .inl af2)) (m_o2_3 : M (o2 + 3) = .inr (8, [.int 2, .ref (ad (o2 + 4))])) (m_o2_4 : M (o2 + 4) = .inl (cI, 12, .inl sf2)) (m_o2_5 : M (o2 + 5) = .inr (8, [.int 1, .ref (ad (o2 + 6))])) (m_o2_6 : M (o2 + 6) = .inl (cI, 3, .inl tf3)) (hgg : g + 2 < g2 ∨ g2 + 2 < g) (hgg2 : g2 + 2 < g ∨ g + 2 < g2) (hoo : o + 6 < o2 ∨ o2 + 6 < o) (hoo2 : o2 + 6 < o ∨ o + 6 < o2) (hgo : g + 2 < o ∨ o + 6 < g) (hgo2 : g + 2 < o2 ∨ o2 + 6 < g) (hg2o : g2 + 2 < o ∨ o + 6 < g2) (hg2o2 : g2 + 2 < o2 ∨ o2 + 6 < g2) (hpg : po < g ∨ g + 2 < po) (hpg2 : po < g2 ∨ g2 + 2 < po) (hpo : po < o ∨ o + 6 < po) (hpo2 : po < o2 ∨ o2 + 6 < po) : cWv l D cB cI cJ ad n M yX12_image wsX12_image 3 64 [.ref (ad po)] (fun M' => M' g2 = .inr (7, standF ad g2 h9 op) ∧ M' (g2 + 2) = .inl (cI, 12, .inl (fun q => tat 12 plf (nI q))) ∧ M' (o2 + 2) = .inl (cI, 120, .inl (fun q => tat 120 af (nI q))) ∧ M' (o2 + 4) = .inl (cI, 12, .inl (fun q => tat 12 sf (nI q))) ∧ M' o2 = .inr (1, logF ad o2 ak sk) ∧ M' (o2 + 6) = .inl (cI, 3, .inl (fun q => tat 3 tf2 (nI q))) ∧ M' po = .inr (11, poF ad po ta h h2 re g o g2 o2 1 fp kb an sc tr) ∧ ∀ q : Nat, q ≠ g2 → q ≠ g2 + 2 → q ≠ o2 + 2 → q ≠ o2 + 4 → q ≠ o2 → q ≠ o2 + 6 → q ≠ po → M' q = M q) := by
  refine q_body (cc := cX12_image) (maxL := 1) (ret := none) (by decide) rfl (Nat.le_of_ble_eq_true rfl) ?_
  intro p e s m args below meth c ls X hr hlocks hK hP hl
  obtain ⟨hx, hb, hml, hown, hts⟩ := id X
  have hS : va_S (ipA ad n) s.heap s.heap [] := va_S.rf
  have hl : lv_has ls 1 [(0, .ref (ad po))] := hl
  refine lv_aload_n hx hb dX12_image_0 rfl (lv_at hl 0 rfl) ?_
  refine q_get (v := .ref (ad g2)) (fs := poF ad po ta h h2 re g o g2 o2 ik fp kb an sc tr) X hK hP fX12_image_51 h_po m_po rfl dX12_image_1 ?_
  refine lv_aload_n hx hb dX12_image_4 rfl (lv_at hl 0 rfl) ?_
  refine q_get (v := .ref (ad g)) (fs := poF ad po ta h h2 re g o g2 o2 ik fp kb an sc tr) X hK hP fX12_image_40 h_po m_po rfl dX12_image_5 ?_
  refine q_wrVv (As := [.ref (ad g)]) (rest := []) (c_X7_become l D cB cI cJ ad n M hI g2 g h8 h9 op2 op plf2 plf h_g2 h_g2_1 h_g2_2 h_g h_g_1 h_g_2 m_g2 m_g2_1 m_g2_2 m_g m_g_1 m_g_2 hgg2) X hK hP hS hl.1 rfl gX12_image_X7_become yd_X7_become ⟨Nat.le_of_ble_eq_true rfl, Nat.le_of_ble_eq_true rfl⟩ h_g2 m_g2 (ci := 7) rfl rfl (Nat.le_of_ble_eq_true rfl) ⟨Nat.zero_le _, Nat.zero_le _⟩ dX12_image_8 (fun M2 H locs hp1 hP hS => ?_)
  obtain ⟨g4, g5, fr6⟩ := hp1
  refine lv_aload_n hx hb dX12_image_11 rfl (lv_at hl 0 rfl) ?_
  refine q_get (v := .ref (ad o2)) (fs := poF ad po ta h h2 re g o g2 o2 ik fp kb an sc tr) X hK hP fX12_image_54 h_po ((fr6 po (by omega) (by omega)).trans m_po) rfl dX12_image_12 ?_
  refine lv_aload_n hx hb dX12_image_15 rfl (lv_at hl 0 rfl) ?_
  refine q_get (v := .ref (ad o)) (fs := poF ad po ta h h2 re g o g2 o2 ik fp kb an sc tr) X hK hP fX12_image_47 h_po ((fr6 po (by omega) (by omega)).trans m_po) rfl dX12_image_16 ?_
  refine q_wrVv (As := [.ref (ad o)]) (rest := []) (c_X1_become l D cB cI cJ ad n M2 hI o2 o ak2 sk2 ak sk af2 sf2 tf3 af sf tf2 h_o2 h_o2_1 h_o2_2 h_o2_3 h_o2_4 h_o2_5 h_o2_6 h_o h_o_1 h_o_2 h_o_3 h_o_4 h_o_5 h_o_6 ((fr6 o2 (by omega) (by omega)).trans m_o2) ((fr6 (o2 + 1) (by omega) (by omega)).trans m_o2_1) ((fr6 (o2 + 2) (by omega) (by omega)).trans m_o2_2) ((fr6 (o2 + 3) (by omega) (by omega)).trans m_o2_3) ((fr6 (o2 + 4) (by omega) (by omega)).trans m_o2_4) ((fr6 (o2 + 5) (by omega) (by omega)).trans m_o2_5) ((fr6 (o2 + 6) (by omega) (by omega)).trans m_o2_6) ((fr6 o (by omega) (by omega)).trans m_o) ((fr6 (o + 1) (by omega) (by omega)).trans m_o_1) ((fr6 (o + 2) (by omega) (by omega)).trans m_o_2) ((fr6 (o + 3) (by omega) (by omega)).trans m_o_3) ((fr6 (o + 4) (by omega) (by omega)).trans m_o_4) ((fr6 (o + 5) (by omega) (by omega)).trans m_o_5) ((fr6 (o + 6) (by omega) (by omega)).trans m_o_6) hoo2) X hK hP hS hl.1 rfl gX12_image_X1_become yd_X1_become ⟨Nat.le_of_ble_eq_true rfl, Nat.le_of_ble_eq_true rfl⟩ h_o2 ((fr6 o2 (by omega) (by omega)).trans m_o2) (ci := 1) rfl rfl (Nat.le_of_ble_eq_true rfl) ⟨Nat.zero_le _, Nat.zero_le _⟩ dX12_image_19 (fun M8 H locs hp7 hP hS => ?_)
  obtain ⟨g10, g11, g12, g13, fr14⟩ := hp7
  refine lv_aload_n hx hb dX12_image_22 rfl (lv_at hl 0 rfl) ?_
  refine lv_iconst (v := 1) hx hb dX12_image_23 (by decide) ?_
  refine q_put (fs := poF ad po ta h h2 re g o g2 o2 ik fp kb an sc tr) (fs' := poF ad po ta h h2 re g o g2 o2 1 fp kb an sc tr) X hK hI hP hS fX12_image_118 fw_11_8 h_po ((fr14 po (by omega) (by omega) (by omega) (by omega)).trans ((fr6 po (by omega) (by omega)).trans m_po)) rfl rfl (Nat.le_of_ble_eq_true rfl) rfl dX12_image_24 (fun H locs hP hS => ?_)
  exact q_wvret X hr hlocks hP hS ⟨((va_up_ne M8 (.inr (11, poF ad po ta h h2 re g o g2 o2 1 fp kb an sc tr)) (show g2 ≠ po by omega)).trans ((fr14 g2 (by omega) (by omega) (by omega) (by omega)).trans g4)), ((va_up_ne M8 (.inr (11, poF ad po ta h h2 re g o g2 o2 1 fp kb an sc tr)) (show g2 + 2 ≠ po by omega)).trans ((fr14 (g2 + 2) (by omega) (by omega) (by omega) (by omega)).trans g5)), ((va_up_ne M8 (.inr (11, poF ad po ta h h2 re g o g2 o2 1 fp kb an sc tr)) (show o2 + 2 ≠ po by omega)).trans g10), ((va_up_ne M8 (.inr (11, poF ad po ta h h2 re g o g2 o2 1 fp kb an sc tr)) (show o2 + 4 ≠ po by omega)).trans g11), ((va_up_ne M8 (.inr (11, poF ad po ta h h2 re g o g2 o2 1 fp kb an sc tr)) (show o2 ≠ po by omega)).trans g12), ((va_up_ne M8 (.inr (11, poF ad po ta h h2 re g o g2 o2 1 fp kb an sc tr)) (show o2 + 6 ≠ po by omega)).trans g13), (va_up_self M8 po (.inr (11, poF ad po ta h h2 re g o g2 o2 1 fp kb an sc tr))), (fun q n0 n1 n2 n3 n4 n5 n6 => ((va_up_ne _ _ n6).trans ((fr14 q n2 n3 n4 n5).trans (fr6 q n0 n1))))⟩ dX12_image_27
set_option maxRecDepth 20000 in
theorem fX12_restore_118 : FL wsX12_restore RX12 118 11 8 := ⟨RX12, TX12, 14, rfl, by decide +kernel, by decide, by decide +kernel⟩
set_option maxRecDepth 20000 in
theorem fX12_restore_40 : FL wsX12_restore RX12 40 11 4 := ⟨RX12, TX12, 14, rfl, by decide +kernel, by decide, by decide +kernel⟩
set_option maxRecDepth 20000 in
theorem fX12_restore_51 : FL wsX12_restore RX12 51 11 6 := ⟨RX12, TX12, 14, rfl, by decide +kernel, by decide, by decide +kernel⟩
set_option maxRecDepth 20000 in
theorem fX12_restore_47 : FL wsX12_restore RX12 47 11 5 := ⟨RX12, TX12, 14, rfl, by decide +kernel, by decide, by decide +kernel⟩
set_option maxRecDepth 20000 in
theorem fX12_restore_54 : FL wsX12_restore RX12 54 11 7 := ⟨RX12, TX12, 14, rfl, by decide +kernel, by decide, by decide +kernel⟩
def s_X12_restore (ik : Int32) : Int32 := if ik = 0 then 0 else 1
def s_X12_restore_0_1 (ik : Int32) (h8 : Nat) (h9 : Nat) : Nat := if ik = 0 then h9 else h8
def s_X12_restore_0_2 (ik : Int32) (op : Int32) (op2 : Int32) : Int32 := if ik = 0 then op else op2
def s_X12_restore_1_f (ik : Int32) (plf : Nat → Int32) (plf2 : Nat → Int32) : Nat → Int32 := if ik = 0 then plf else (fun q => tat 12 plf2 (nI q))
def s_X12_restore_2_1 (ik : Int32) (ak : Int32) (ak2 : Int32) : Int32 := if ik = 0 then ak else ak2
def s_X12_restore_2_2 (ik : Int32) (sk : Int32) (sk2 : Int32) : Int32 := if ik = 0 then sk else sk2
def s_X12_restore_3_f (ik : Int32) (af : Nat → Int32) (af2 : Nat → Int32) : Nat → Int32 := if ik = 0 then af else (fun q => tat 120 af2 (nI q))
def s_X12_restore_4_f (ik : Int32) (sf : Nat → Int32) (sf2 : Nat → Int32) : Nat → Int32 := if ik = 0 then sf else (fun q => tat 12 sf2 (nI q))
def s_X12_restore_5_f (ik : Int32) (tf2 : Nat → Int32) (tf3 : Nat → Int32) : Nat → Int32 := if ik = 0 then tf2 else (fun q => tat 3 tf3 (nI q))
set_option maxHeartbeats 4000000 in
set_option maxRecDepth 100000 in
theorem c_X12_restore (l : Launch) (D : va_G) (cB cI cJ : ClassId) (ad : Nat → Nat) (n : Nat) (M : Nat → va_E) (hI : ipI ad n) (po ta h h2 re g o g2 o2 kb an sc tr : Nat) (ik fp : Int32) (h8 h9 : Nat) (ak sk ak2 sk2 op op2 : Int32) (af sf tf2 af2 sf2 tf3 plf plf2 : Nat → Int32) (h_po : po < n) (h_g : g < n) (h_g_1 : g + 1 < n) (h_g_2 : g + 2 < n) (h_g2 : g2 < n) (h_g2_1 : g2 + 1 < n) (h_g2_2 : g2 + 2 < n) (h_o : o < n) (h_o_1 : o + 1 < n) (h_o_2 : o + 2 < n) (h_o_3 : o + 3 < n) (h_o_4 : o + 4 < n) (h_o_5 : o + 5 < n) (h_o_6 : o + 6 < n) (h_o2 : o2 < n) (h_o2_1 : o2 + 1 < n) (h_o2_2 : o2 + 2 < n) (h_o2_3 : o2 + 3 < n) (h_o2_4 : o2 + 4 < n) (h_o2_5 : o2 + 5 < n) (h_o2_6 : o2 + 6 < n) (m_po : M po = .inr (11, poF ad po ta h h2 re g o g2 o2 ik fp kb an sc tr)) (m_g : M g = .inr (7, standF ad g h9 op)) (m_g_1 : M (g + 1) = .inr (8, [.int 1, .ref (ad (g + 2))])) (m_g_2 : M (g + 2) = .inl (cI, 12, .inl plf)) (m_g2 : M g2 = .inr (7, standF ad g2 h8 op2)) (m_g2_1 : M (g2 + 1) = .inr (8, [.int 1, .ref (ad (g2 + 2))])) (m_g2_2 : M (g2 + 2) = .inl (cI, 12, .inl plf2)) (m_o : M o = .inr (1, logF ad o ak sk)) (m_o_1 : M (o + 1) = .inr (8, [.int 3, .ref (ad (o + 2))])) (m_o_2 : M (o + 2) = .inl (cI, 120, .inl af)) (m_o_3 : M (o + 3) = .inr (8, [.int 2, .ref (ad (o + 4))])) (m_o_4 : M (o + 4) = .inl (cI, 12, .inl sf)) (m_o_5 : M (o + 5) = .inr (8, [.int 1, .ref (ad (o + 6))])) (m_o_6 : M (o + 6) = .inl (cI, 3, .inl tf2)) (m_o2 : M o2 = .inr (1, logF ad o2 ak2 sk2)) (m_o2_1 : M (o2 + 1) = .inr (8, [.int 3, .ref (ad (o2 + 2))])) (m_o2_2 : M (o2 + 2) = .inl (cI, 120, .inl af2)) (m_o2_3 : M (o2 + 3) = .inr (8, [.int 2, .ref (ad (o2 + 4))])) (m_o2_4 : M (o2 + 4) = .inl (cI, 12, .inl sf2)) (m_o2_5 : M (o2 + 5) = .inr (8, [.int 1, .ref (ad (o2 + 6))])) (m_o2_6 : M (o2 + 6) = .inl (cI, 3, .inl tf3)) (hgg : g + 2 < g2 ∨ g2 + 2 < g) (hgg2 : g2 + 2 < g ∨ g + 2 < g2) (hoo : o + 6 < o2 ∨ o2 + 6 < o) (hoo2 : o2 + 6 < o ∨ o + 6 < o2) (hgo : g + 2 < o ∨ o + 6 < g) (hgo2 : g + 2 < o2 ∨ o2 + 6 < g) (hg2o : g2 + 2 < o ∨ o + 6 < g2) (hg2o2 : g2 + 2 < o2 ∨ o2 + 6 < g2) (hpg : po < g ∨ g + 2 < po) (hpg2 : po < g2 ∨ g2 + 2 < po) (hpo : po < o ∨ o + 6 < po) (hpo2 : po < o2 ∨ o2 + 6 < po) : cWi l D cB cI cJ ad n M yX12_restore wsX12_restore 3 64 [.ref (ad po)] (fun r M' => r = s_X12_restore ik ∧ M' g = .inr (7, standF ad g (s_X12_restore_0_1 ik h8 h9) (s_X12_restore_0_2 ik op op2)) ∧ M' (g + 2) = .inl (cI, 12, .inl (s_X12_restore_1_f ik plf plf2)) ∧ M' o = .inr (1, logF ad o (s_X12_restore_2_1 ik ak ak2) (s_X12_restore_2_2 ik sk sk2)) ∧ M' (o + 2) = .inl (cI, 120, .inl (s_X12_restore_3_f ik af af2)) ∧ M' (o + 4) = .inl (cI, 12, .inl (s_X12_restore_4_f ik sf sf2)) ∧ M' (o + 6) = .inl (cI, 3, .inl (s_X12_restore_5_f ik tf2 tf3)) ∧ ∀ q : Nat, q ≠ g → q ≠ g + 2 → q ≠ o → q ≠ o + 2 → q ≠ o + 4 → q ≠ o + 6 → M' q = M q) := by
  refine q_body (cc := cX12_restore) (maxL := 1) (ret := (some .boolean)) (by decide) rfl (Nat.le_of_ble_eq_true rfl) ?_
  intro p e s m args below meth c ls X hr hlocks hK hP hl
  obtain ⟨hx, hb, hml, hown, hts⟩ := id X
  have hS : va_S (ipA ad n) s.heap s.heap [] := va_S.rf
  have hl : lv_has ls 1 [(0, .ref (ad po))] := hl
  refine lv_aload_n hx hb dX12_restore_0 rfl (lv_at hl 0 rfl) ?_
  refine q_get (v := .int ik) (fs := poF ad po ta h h2 re g o g2 o2 ik fp kb an sc tr) X hK hP fX12_restore_118 h_po m_po rfl dX12_restore_1 ?_
  refine lv_if_ne (tgt := 9) hx hb dX12_restore_4 (by decide) (fun c_4 => ?_) (fun c_4 => ?_)
  · skip
    refine lv_aload_n hx hb dX12_restore_9 rfl (lv_at hl 0 rfl) ?_
    refine q_get (v := .ref (ad g)) (fs := poF ad po ta h h2 re g o g2 o2 ik fp kb an sc tr) X hK hP fX12_restore_40 h_po m_po rfl dX12_restore_10 ?_
    refine lv_aload_n hx hb dX12_restore_13 rfl (lv_at hl 0 rfl) ?_
    refine q_get (v := .ref (ad g2)) (fs := poF ad po ta h h2 re g o g2 o2 ik fp kb an sc tr) X hK hP fX12_restore_51 h_po m_po rfl dX12_restore_14 ?_
    refine q_wrVv (As := [.ref (ad g2)]) (rest := []) (c_X7_become l D cB cI cJ ad n M hI g g2 h9 h8 op op2 plf plf2 h_g h_g_1 h_g_2 h_g2 h_g2_1 h_g2_2 m_g m_g_1 m_g_2 m_g2 m_g2_1 m_g2_2 hgg) X hK hP hS hl.1 rfl gX12_restore_X7_become yd_X7_become ⟨Nat.le_of_ble_eq_true rfl, Nat.le_of_ble_eq_true rfl⟩ h_g m_g (ci := 7) rfl rfl (Nat.le_of_ble_eq_true rfl) ⟨Nat.zero_le _, Nat.zero_le _⟩ dX12_restore_17 (fun M2 H locs hp1 hP hS => ?_)
    obtain ⟨g4, g5, fr6⟩ := hp1
    refine lv_aload_n hx hb dX12_restore_20 rfl (lv_at hl 0 rfl) ?_
    refine q_get (v := .ref (ad o)) (fs := poF ad po ta h h2 re g o g2 o2 ik fp kb an sc tr) X hK hP fX12_restore_47 h_po ((fr6 po (by omega) (by omega)).trans m_po) rfl dX12_restore_21 ?_
    refine lv_aload_n hx hb dX12_restore_24 rfl (lv_at hl 0 rfl) ?_
    refine q_get (v := .ref (ad o2)) (fs := poF ad po ta h h2 re g o g2 o2 ik fp kb an sc tr) X hK hP fX12_restore_54 h_po ((fr6 po (by omega) (by omega)).trans m_po) rfl dX12_restore_25 ?_
    refine q_wrVv (As := [.ref (ad o2)]) (rest := []) (c_X1_become l D cB cI cJ ad n M2 hI o o2 ak sk ak2 sk2 af sf tf2 af2 sf2 tf3 h_o h_o_1 h_o_2 h_o_3 h_o_4 h_o_5 h_o_6 h_o2 h_o2_1 h_o2_2 h_o2_3 h_o2_4 h_o2_5 h_o2_6 ((fr6 o (by omega) (by omega)).trans m_o) ((fr6 (o + 1) (by omega) (by omega)).trans m_o_1) ((fr6 (o + 2) (by omega) (by omega)).trans m_o_2) ((fr6 (o + 3) (by omega) (by omega)).trans m_o_3) ((fr6 (o + 4) (by omega) (by omega)).trans m_o_4) ((fr6 (o + 5) (by omega) (by omega)).trans m_o_5) ((fr6 (o + 6) (by omega) (by omega)).trans m_o_6) ((fr6 o2 (by omega) (by omega)).trans m_o2) ((fr6 (o2 + 1) (by omega) (by omega)).trans m_o2_1) ((fr6 (o2 + 2) (by omega) (by omega)).trans m_o2_2) ((fr6 (o2 + 3) (by omega) (by omega)).trans m_o2_3) ((fr6 (o2 + 4) (by omega) (by omega)).trans m_o2_4) ((fr6 (o2 + 5) (by omega) (by omega)).trans m_o2_5) ((fr6 (o2 + 6) (by omega) (by omega)).trans m_o2_6) hoo) X hK hP hS hl.1 rfl gX12_restore_X1_become yd_X1_become ⟨Nat.le_of_ble_eq_true rfl, Nat.le_of_ble_eq_true rfl⟩ h_o ((fr6 o (by omega) (by omega)).trans m_o) (ci := 1) rfl rfl (Nat.le_of_ble_eq_true rfl) ⟨Nat.zero_le _, Nat.zero_le _⟩ dX12_restore_28 (fun M8 H locs hp7 hP hS => ?_)
    obtain ⟨g10, g11, g12, g13, fr14⟩ := hp7
    refine lv_iconst (v := 1) hx hb dX12_restore_31 (by decide) ?_
    exact q_wzret X hr hlocks hP hS (rfl) ⟨(by rw [s_X12_restore, if_neg c_4]), (by rw [s_X12_restore_0_1, if_neg c_4, s_X12_restore_0_2, if_neg c_4]; exact ((fr14 g (by omega) (by omega) (by omega) (by omega)).trans g4)), (by rw [s_X12_restore_1_f, if_neg c_4]; exact ((fr14 (g + 2) (by omega) (by omega) (by omega) (by omega)).trans g5)), (by rw [s_X12_restore_2_1, if_neg c_4, s_X12_restore_2_2, if_neg c_4]; exact g12), (by rw [s_X12_restore_3_f, if_neg c_4]; exact g10), (by rw [s_X12_restore_4_f, if_neg c_4]; exact g11), (by rw [s_X12_restore_5_f, if_neg c_4]; exact g13), (fun q n0 n1 n2 n3 n4 n5 => ((fr14 q n3 n4 n2 n5).trans (fr6 q n0 n1)))⟩ dX12_restore_32
  · skip
    refine lv_iconst (v := 0) hx hb dX12_restore_7 (by decide) ?_
    exact q_wzret X hr hlocks hP hS (rfl) ⟨(by rw [s_X12_restore, if_pos c_4]), (by rw [s_X12_restore_0_1, if_pos c_4, s_X12_restore_0_2, if_pos c_4]; exact m_g), (by rw [s_X12_restore_1_f, if_pos c_4]; exact m_g_2), (by rw [s_X12_restore_2_1, if_pos c_4, s_X12_restore_2_2, if_pos c_4]; exact m_o), (by rw [s_X12_restore_3_f, if_pos c_4]; exact m_o_2), (by rw [s_X12_restore_4_f, if_pos c_4]; exact m_o_4), (by rw [s_X12_restore_5_f, if_pos c_4]; exact m_o_6), (fun q n0 n1 n2 n3 n4 n5 => rfl)⟩ dX12_restore_8
