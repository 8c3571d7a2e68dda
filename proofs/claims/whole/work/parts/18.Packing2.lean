/-! PoundsOver$Packing: what is reached, whether all can be packed, the cheapest set -/
theorem nI_and (a b : Nat) : nI a &&& nI b = nI (a &&& b) := by
  refine Int32.toBitVec_inj.mp ?_
  show BitVec.ofNat 32 a &&& BitVec.ofNat 32 b = BitVec.ofNat 32 (a &&& b)
  refine BitVec.eq_of_toNat_eq ?_
  simp [Nat.and_mod_two_pow]
theorem pos_of_nle {k : Nat} (h : ¬ nI k ≤ 0) : 0 < k := by
  cases k with
  | zero => exact absurd (by decide) h
  | succ k => omega
theorem zero_of_le {k : Nat} (hk : k < 2 ^ 30) (h : nI k ≤ 0) : k = 0 := by
  cases k with
  | zero => rfl
  | succ k => exact absurd h (nI_nle (by omega) (by omega))
def wdI (tkf : Nat → Int32) (w : Nat) : Nat → Nat → (Nat → Int32) → (Nat → Int32)
  | 0, _, rf => rf
  | r + 1, q, rf => if nI q ≤ 0 then rf else if tat 256 rf (nI w) = 0 then wdI tkf w r ((q - 1) &&& w) (if tat 256 tkf (nI q) = 0 then rf else if tat 256 rf ((nI w) ^^^ (nI q)) = 0 then rf else tset 256 rf (nI w) 1) else rf
def wdO (tkf : Nat → Int32) : Nat → (Nat → Int32) → (Nat → Int32)
  | 0, rf => rf
  | w + 1, rf => wdO tkf w (wdI tkf (w + 1) (w + 1) (w + 1) rf)
theorem wdI_le (tkf : Nat → Int32) (w q : Nat) (rf : Nat → Int32) (h : nI q ≤ 0) : ∀ r, wdI tkf w r q rf = rf
  | 0 => rfl
  | _ + 1 => if_pos h
theorem sh_all : ∀ nn : Nat, nn ≤ 8 → ((1 : Int32) <<< ((nI nn) &&& 31)) - 1 = nI (((1 : Int32) <<< ((nI nn) &&& 31)) - 1).toNatClampNeg ∧ (((1 : Int32) <<< ((nI nn) &&& 31)) - 1).toNatClampNeg ≤ 255 := by decide +kernel
theorem sh_all2 {x : Int32} {nn : Nat} (h : x = nI nn) (hn : nn ≤ 8) : ((1 : Int32) <<< (x &&& 31)) - 1 = nI (((1 : Int32) <<< (x &&& 31)) - 1).toNatClampNeg ∧ (((1 : Int32) <<< (x &&& 31)) - 1).toNatClampNeg ≤ 255 := by subst h; exact sh_all nn hn
set_option maxRecDepth 20000 in
theorem fX2_widen_20 : FL wsX2_widen RX2 20 2 1 := ⟨RX2, TX2, 3, rfl, by decide +kernel, by decide, by decide +kernel⟩
set_option maxRecDepth 20000 in
theorem fX2_widen_23 : FL wsX2_widen RX2 23 2 2 := ⟨RX2, TX2, 3, rfl, by decide +kernel, by decide, by decide +kernel⟩
set_option maxHeartbeats 4000000 in
set_option maxRecDepth 100000 in
theorem c_X2_widen (l : Launch) (D : va_G) (cB cI cJ : ClassId) (ad : Nat → Nat) (n : Nat) (M : Nat → va_E) (hI : ipI ad n) (kb : Nat) (ref tkf : Nat → Int32) (al : Int32) (h_kb : kb < n) (h_kb_3 : kb + 3 < n) (h_kb_4 : kb + 4 < n) (h_kb_5 : kb + 5 < n) (h_kb_6 : kb + 6 < n) (m_kb : M kb = .inr (2, packF ad kb)) (m_kb_3 : M (kb + 3) = .inr (8, [.int 1, .ref (ad (kb + 4))])) (m_kb_4 : M (kb + 4) = .inl (cI, 256, .inl ref)) (m_kb_5 : M (kb + 5) = .inr (8, [.int 1, .ref (ad (kb + 6))])) (m_kb_6 : M (kb + 6) = .inl (cI, 256, .inl tkf)) (hal : al = nI al.toNatClampNeg) (hna : al.toNatClampNeg ≤ 255) : cWv l D cB cI cJ ad n M yX2_widen wsX2_widen 1 22 [.ref (ad kb), .int al] (fun M' => M' (kb + 4) = .inl (cI, 256, .inl (wdO tkf al.toNatClampNeg ref)) ∧ ∀ q : Nat, q ≠ kb + 4 → M' q = M q) := by
  refine q_body (cc := cX2_widen) (maxL := 4) (ret := none) (by decide) rfl (Nat.le_of_ble_eq_true rfl) ?_
  intro p e s m args below meth c ls X hr hlocks hK hP hl
  obtain ⟨hx, hb, hml, hown, hts⟩ := id X
  have hS : va_S (ipA ad n) s.heap s.heap [] := va_S.rf
  have hl : lv_has ls 4 [(0, .ref (ad kb)), (1, .int al)] := hl
  refine lv_iload_n hx hb dX2_widen_0 rfl (lv_at hl 1 rfl) ?_
  refine lv_istore_n (lv' := [(2, .int al), (0, .ref (ad kb)), (1, .int al)]) hx hb dX2_widen_1 rfl hl (by decide) rfl (fun ls hl => ?_)
  have loop_2 : ∀ (fuel : Nat) (w1 : Nat) (y2 : Nat → Int32) (x2 : Int32), w1 < fuel → (w1 ≤ 255) → (wdO tkf w1 y2 = wdO tkf al.toNatClampNeg ref) → x2 = nI w1 → ∀ (ML2 : Nat → va_E) (H : Heap) (locs : List Loc), ML2 (kb + 4) = .inl (cI, 256, .inl y2) → (∀ q : Nat, q ≠ kb + 4 → ML2 q = M q) → va_P D vwCl (ip ad n ML2) H → va_S (ipA ad n) s.heap H locs → ∀ (ls : Array Slot), lv_has ls 4 [(0, .ref (ad kb)), (1, .int al), (2, .int x2)] → W p l e (rmOf 1 22) s m args below meth c H locs 0 0 (MQ below (va_Qv (fun M' => M' (kb + 4) = .inl (cI, 256, .inl (wdO tkf al.toNatClampNeg ref)) ∧ ∀ q : Nat, q ≠ kb + 4 → M' q = M q) (fun M' t => va_P D vwCl (ip ad n M') t.heap) (ipA ad n)) args s 0 0 (ipA ad n)) (F0 m 2 ls []) := by
    intro fuel
    induction fuel with
    | zero =>
      intro w1 y2 x2 hz
      exact absurd hz (Nat.not_lt_zero _)
    | succ fuel ih_2 =>
      intro w1 y2 x2 hz_2 hw1 he e2 ML2 H locs mL2_0 fL2 hP hS ls hl
      subst e2
      skip
      refine lv_iload_n hx hb dX2_widen_2 rfl (lv_at hl 2 rfl) ?_
      refine lv_if_le (tgt := 71) hx hb dX2_widen_3 (by decide) (fun c_3 => ?_) (fun c_3 => ?_)
      · skip
        exact q_wvret X hr hlocks hP hS ⟨(by have h9 := zero_of_le (by omega) c_3; subst h9; refine mL2_0.trans ?_; rw [← he]; rfl), (fun q n0 => (fL2 q n0))⟩ dX2_widen_71
      · skip
        have hw0 := pos_of_nle c_3
        refine lv_iload_n hx hb dX2_widen_6 rfl (lv_at hl 2 rfl) ?_
        refine lv_istore_n (lv' := [(3, .int (nI w1)), (0, .ref (ad kb)), (1, .int al), (2, .int (nI w1))]) hx hb dX2_widen_7 rfl hl (by decide) rfl (fun ls hl => ?_)
        have loop_8 : ∀ (fuel : Nat) (r1 p1 : Nat) (y8 : Nat → Int32) (x3 : Int32), p1 < fuel → (p1 ≤ w1) → (p1 ≤ r1) → (wdI tkf w1 r1 p1 y8 = wdI tkf w1 w1 w1 y2) → x3 = nI p1 → ∀ (ML8 : Nat → va_E) (H : Heap) (locs : List Loc), ML8 (kb + 4) = .inl (cI, 256, .inl y8) → (∀ q : Nat, q ≠ kb + 4 → ML8 q = M q) → va_P D vwCl (ip ad n ML8) H → va_S (ipA ad n) s.heap H locs → ∀ (ls : Array Slot), lv_has ls 4 [(0, .ref (ad kb)), (1, .int al), (2, .int (nI w1)), (3, .int x3)] → W p l e (rmOf 1 22) s m args below meth c H locs 0 0 (MQ below (va_Qv (fun M' => M' (kb + 4) = .inl (cI, 256, .inl (wdO tkf al.toNatClampNeg ref)) ∧ ∀ q : Nat, q ≠ kb + 4 → M' q = M q) (fun M' t => va_P D vwCl (ip ad n M') t.heap) (ipA ad n)) args s 0 0 (ipA ad n)) (F0 m 8 ls []) := by
          intro fuel
          induction fuel with
          | zero =>
            intro r1 p1 y8 x3 hz
            exact absurd hz (Nat.not_lt_zero _)
          | succ fuel ih_8 =>
            intro r1 p1 y8 x3 hz_8 hp1 hr1 hi e3 ML8 H locs mL8_0 fL8 hP hS ls hl
            subst e3
            skip
            refine lv_iload_n hx hb dX2_widen_8 rfl (lv_at hl 3 rfl) ?_
            refine lv_if_le (tgt := 65) hx hb dX2_widen_9 (by decide) (fun c_9 => ?_) (fun c_9 => ?_)
            · skip
              have hx9 : wdI tkf w1 w1 w1 y2 = y8 := by rw [← hi]; exact wdI_le _ _ _ _ c_9 _
              refine lv_iinc (v := ((nI w1) + (-1))) (lv' := [(2, .int ((nI w1) + (-1))), (0, .ref (ad kb)), (1, .int al), (3, .int (nI p1))]) hx hb dX2_widen_65 hl (k := 2) rfl rfl (by decide) rfl (fun ls hl => ?_)
              refine lv_goto (tgt := 2) hx hb dX2_widen_68 (by decide) ?_
              exact ih_2 (w1 - 1) y8 ((nI w1) + (-1)) (by omega) (by omega) (by rw [← he]; conv => rhs; rw [show w1 = (w1 - 1) + 1 by omega]; rw [wdO, show w1 - 1 + 1 = w1 by omega, hx9]) (by obtain ⟨w9, hw9⟩ : ∃ w9, w1 = w9 + 1 := ⟨w1 - 1, by omega⟩; rw [hw9]; exact pk_m1 w9) _ _ _ mL8_0 (fun q n0 => (fL8 q n0)) hP hS ls (lv_sub hl [1, 2, 0] rfl)
            · skip
              have hp0 := pos_of_nle c_9
              refine lv_aload_n hx hb dX2_widen_12 rfl (lv_at hl 0 rfl) ?_
              refine q_get (v := .ref (ad (kb + 3))) (fs := packF ad kb) X hK hP fX2_widen_20 h_kb ((fL8 kb (by omega)).trans m_kb) rfl dX2_widen_13 ?_
              refine lv_iload_n hx hb dX2_widen_16 rfl (lv_at hl 2 rfl) ?_
              refine q_rdV (As := [.int (nI w1)]) (rest := []) (c_X8_at l D cB cI cJ ad n ML8 (kb + 3) (kb + 4) 256 1 y8 (nI w1) h_kb_3 h_kb_4 ((fL8 (kb + 3) (by omega)).trans m_kb_3) mL8_0 (by decide)) X hK hP hS hl.1 rfl gX2_widen_X8_at yd_X8_at ⟨Nat.le_of_ble_eq_true rfl, Nat.le_of_ble_eq_true rfl⟩ h_kb_3 ((fL8 (kb + 3) (by omega)).trans m_kb_3) (ci := 8) rfl rfl (Nat.le_of_ble_eq_true rfl) ⟨Nat.zero_le _, Nat.zero_le _⟩ dX2_widen_17 ?_
              refine lv_if_ne (tgt := 65) hx hb dX2_widen_20 (by decide) (fun c_20 => ?_) (fun c_20 => ?_)
              · skip
                have hx9 : wdI tkf w1 w1 w1 y2 = y8 := by obtain ⟨r9, hr9⟩ : ∃ r9, r1 = r9 + 1 := ⟨r1 - 1, by omega⟩; rw [← hi, hr9, wdI, if_neg c_9, if_neg c_20]
                refine lv_iinc (v := ((nI w1) + (-1))) (lv' := [(2, .int ((nI w1) + (-1))), (0, .ref (ad kb)), (1, .int al), (3, .int (nI p1))]) hx hb dX2_widen_65 hl (k := 2) rfl rfl (by decide) rfl (fun ls hl => ?_)
                refine lv_goto (tgt := 2) hx hb dX2_widen_68 (by decide) ?_
                exact ih_2 (w1 - 1) y8 ((nI w1) + (-1)) (by omega) (by omega) (by rw [← he]; conv => rhs; rw [show w1 = (w1 - 1) + 1 by omega]; rw [wdO, show w1 - 1 + 1 = w1 by omega, hx9]) (by obtain ⟨w9, hw9⟩ : ∃ w9, w1 = w9 + 1 := ⟨w1 - 1, by omega⟩; rw [hw9]; exact pk_m1 w9) _ _ _ mL8_0 (fun q n0 => (fL8 q n0)) hP hS ls (lv_sub hl [1, 2, 0] rfl)
              · skip
                refine lv_aload_n hx hb dX2_widen_23 rfl (lv_at hl 0 rfl) ?_
                refine q_get (v := .ref (ad (kb + 5))) (fs := packF ad kb) X hK hP fX2_widen_23 h_kb ((fL8 kb (by omega)).trans m_kb) rfl dX2_widen_24 ?_
                refine lv_iload_n hx hb dX2_widen_27 rfl (lv_at hl 3 rfl) ?_
                refine q_rdV (As := [.int (nI p1)]) (rest := []) (c_X8_at l D cB cI cJ ad n ML8 (kb + 5) (kb + 6) 256 1 tkf (nI p1) h_kb_5 h_kb_6 ((fL8 (kb + 5) (by omega)).trans m_kb_5) ((fL8 (kb + 6) (by omega)).trans m_kb_6) (by decide)) X hK hP hS hl.1 rfl gX2_widen_X8_at yd_X8_at ⟨Nat.le_of_ble_eq_true rfl, Nat.le_of_ble_eq_true rfl⟩ h_kb_5 ((fL8 (kb + 5) (by omega)).trans m_kb_5) (ci := 8) rfl rfl (Nat.le_of_ble_eq_true rfl) ⟨Nat.zero_le _, Nat.zero_le _⟩ dX2_widen_28 ?_
                refine lv_if_eq (tgt := 56) hx hb dX2_widen_31 (by decide) (fun c_31 => ?_) (fun c_31 => ?_)
                · skip
                  refine lv_iload_n hx hb dX2_widen_56 rfl (lv_at hl 3 rfl) ?_
                  refine lv_iconst (v := 1) hx hb dX2_widen_57 (by decide) ?_
                  refine lv_isub hx hb dX2_widen_58 ?_
                  refine lv_iload_n hx hb dX2_widen_59 rfl (lv_at hl 2 rfl) ?_
                  refine lv_iand hx hb dX2_widen_60 ?_
                  refine lv_istore_n (lv' := [(3, .int (((nI p1) - 1) &&& (nI w1))), (0, .ref (ad kb)), (1, .int al), (2, .int (nI w1))]) hx hb dX2_widen_61 rfl hl (by decide) rfl (fun ls hl => ?_)
                  refine lv_goto (tgt := 8) hx hb dX2_widen_62 (by decide) ?_
                  exact ih_8 (r1 - 1) ((p1 - 1) &&& w1) y8 (((nI p1) - 1) &&& (nI w1)) (by have := Nat.and_le_left (n := p1 - 1) (m := w1); omega) (by have := Nat.and_le_left (n := p1 - 1) (m := w1); omega) (by have := Nat.and_le_left (n := p1 - 1) (m := w1); omega) (by obtain ⟨r9, hr9⟩ : ∃ r9, r1 = r9 + 1 := ⟨r1 - 1, by omega⟩; rw [← hi, hr9, wdI, if_neg c_9, if_pos c_20]; first | (rw [if_pos c_31, show r9 + 1 - 1 = r9 by omega]; done) | (rw [if_neg c_31, if_pos c_44, show r9 + 1 - 1 = r9 by omega]; done) | (rw [if_neg c_31, if_neg c_44, show r9 + 1 - 1 = r9 by omega]; done)) (by rw [nI_sub1 hp0, nI_and]) _ _ _ mL8_0 (fun q n0 => (fL8 q n0)) hP hS ls (lv_sub hl [1, 2, 3, 0] rfl)
                · skip
                  refine lv_aload_n hx hb dX2_widen_34 rfl (lv_at hl 0 rfl) ?_
                  refine q_get (v := .ref (ad (kb + 3))) (fs := packF ad kb) X hK hP fX2_widen_20 h_kb ((fL8 kb (by omega)).trans m_kb) rfl dX2_widen_35 ?_
                  refine lv_iload_n hx hb dX2_widen_38 rfl (lv_at hl 2 rfl) ?_
                  refine lv_iload_n hx hb dX2_widen_39 rfl (lv_at hl 3 rfl) ?_
                  refine lv_ixor hx hb dX2_widen_40 ?_
                  refine q_rdV (As := [.int ((nI w1) ^^^ (nI p1))]) (rest := []) (c_X8_at l D cB cI cJ ad n ML8 (kb + 3) (kb + 4) 256 1 y8 ((nI w1) ^^^ (nI p1)) h_kb_3 h_kb_4 ((fL8 (kb + 3) (by omega)).trans m_kb_3) mL8_0 (by decide)) X hK hP hS hl.1 rfl gX2_widen_X8_at yd_X8_at ⟨Nat.le_of_ble_eq_true rfl, Nat.le_of_ble_eq_true rfl⟩ h_kb_3 ((fL8 (kb + 3) (by omega)).trans m_kb_3) (ci := 8) rfl rfl (Nat.le_of_ble_eq_true rfl) ⟨Nat.zero_le _, Nat.zero_le _⟩ dX2_widen_41 ?_
                  refine lv_if_eq (tgt := 56) hx hb dX2_widen_44 (by decide) (fun c_44 => ?_) (fun c_44 => ?_)
                  · skip
                    refine lv_iload_n hx hb dX2_widen_56 rfl (lv_at hl 3 rfl) ?_
                    refine lv_iconst (v := 1) hx hb dX2_widen_57 (by decide) ?_
                    refine lv_isub hx hb dX2_widen_58 ?_
                    refine lv_iload_n hx hb dX2_widen_59 rfl (lv_at hl 2 rfl) ?_
                    refine lv_iand hx hb dX2_widen_60 ?_
                    refine lv_istore_n (lv' := [(3, .int (((nI p1) - 1) &&& (nI w1))), (0, .ref (ad kb)), (1, .int al), (2, .int (nI w1))]) hx hb dX2_widen_61 rfl hl (by decide) rfl (fun ls hl => ?_)
                    refine lv_goto (tgt := 8) hx hb dX2_widen_62 (by decide) ?_
                    exact ih_8 (r1 - 1) ((p1 - 1) &&& w1) y8 (((nI p1) - 1) &&& (nI w1)) (by have := Nat.and_le_left (n := p1 - 1) (m := w1); omega) (by have := Nat.and_le_left (n := p1 - 1) (m := w1); omega) (by have := Nat.and_le_left (n := p1 - 1) (m := w1); omega) (by obtain ⟨r9, hr9⟩ : ∃ r9, r1 = r9 + 1 := ⟨r1 - 1, by omega⟩; rw [← hi, hr9, wdI, if_neg c_9, if_pos c_20]; first | (rw [if_pos c_31, show r9 + 1 - 1 = r9 by omega]; done) | (rw [if_neg c_31, if_pos c_44, show r9 + 1 - 1 = r9 by omega]; done) | (rw [if_neg c_31, if_neg c_44, show r9 + 1 - 1 = r9 by omega]; done)) (by rw [nI_sub1 hp0, nI_and]) _ _ _ mL8_0 (fun q n0 => (fL8 q n0)) hP hS ls (lv_sub hl [1, 2, 3, 0] rfl)
                  · skip
                    refine lv_aload_n hx hb dX2_widen_47 rfl (lv_at hl 0 rfl) ?_
                    refine q_get (v := .ref (ad (kb + 3))) (fs := packF ad kb) X hK hP fX2_widen_20 h_kb ((fL8 kb (by omega)).trans m_kb) rfl dX2_widen_48 ?_
                    refine lv_iload_n hx hb dX2_widen_51 rfl (lv_at hl 2 rfl) ?_
                    refine lv_iconst (v := 1) hx hb dX2_widen_52 (by decide) ?_
                    refine q_wrVv (As := [.int (nI w1), .int 1]) (rest := []) (c_X8_set l D cB cI cJ ad n ML8 hI (kb + 3) (kb + 4) 256 1 y8 (nI w1) 1 h_kb_3 h_kb_4 ((fL8 (kb + 3) (by omega)).trans m_kb_3) mL8_0 (by decide)) X hK hP hS hl.1 rfl gX2_widen_X8_set yd_X8_set ⟨Nat.le_of_ble_eq_true rfl, Nat.le_of_ble_eq_true rfl⟩ h_kb_3 ((fL8 (kb + 3) (by omega)).trans m_kb_3) (ci := 8) rfl rfl (Nat.le_of_ble_eq_true rfl) ⟨Nat.zero_le _, Nat.zero_le _⟩ dX2_widen_53 (fun M2 H locs hp1 hP hS => ?_)
                    obtain ⟨g4, fr5⟩ := hp1
                    refine lv_iload_n hx hb dX2_widen_56 rfl (lv_at hl 3 rfl) ?_
                    refine lv_iconst (v := 1) hx hb dX2_widen_57 (by decide) ?_
                    refine lv_isub hx hb dX2_widen_58 ?_
                    refine lv_iload_n hx hb dX2_widen_59 rfl (lv_at hl 2 rfl) ?_
                    refine lv_iand hx hb dX2_widen_60 ?_
                    refine lv_istore_n (lv' := [(3, .int (((nI p1) - 1) &&& (nI w1))), (0, .ref (ad kb)), (1, .int al), (2, .int (nI w1))]) hx hb dX2_widen_61 rfl hl (by decide) rfl (fun ls hl => ?_)
                    refine lv_goto (tgt := 8) hx hb dX2_widen_62 (by decide) ?_
                    exact ih_8 (r1 - 1) ((p1 - 1) &&& w1) (tset 256 y8 (nI w1) 1) (((nI p1) - 1) &&& (nI w1)) (by have := Nat.and_le_left (n := p1 - 1) (m := w1); omega) (by have := Nat.and_le_left (n := p1 - 1) (m := w1); omega) (by have := Nat.and_le_left (n := p1 - 1) (m := w1); omega) (by obtain ⟨r9, hr9⟩ : ∃ r9, r1 = r9 + 1 := ⟨r1 - 1, by omega⟩; rw [← hi, hr9, wdI, if_neg c_9, if_pos c_20]; first | (rw [if_pos c_31, show r9 + 1 - 1 = r9 by omega]; done) | (rw [if_neg c_31, if_pos c_44, show r9 + 1 - 1 = r9 by omega]; done) | (rw [if_neg c_31, if_neg c_44, show r9 + 1 - 1 = r9 by omega]; done)) (by rw [nI_sub1 hp0, nI_and]) _ _ _ g4 (fun q n0 => ((fr5 q n0).trans (fL8 q n0))) hP hS ls (lv_sub hl [1, 2, 3, 0] rfl)
        exact loop_8 (257) w1 w1 y2 (nI w1) (by omega) (by omega) (by omega) (by rfl) (by rfl) _ _ _ mL2_0 (fun q n0 => (fL2 q n0)) hP hS ls (lv_sub hl [1, 2, 3, 0] rfl)
  exact loop_2 (256) al.toNatClampNeg ref al (by omega) (by omega) (by rfl) (by exact hal) _ _ _ m_kb_4 (fun q n0 => rfl) hP hS ls (lv_sub hl [1, 2, 0] rfl)
theorem yd_X2_listItems : YD yX2_listItems 1 := ⟨by decide +kernel, by decide +kernel, by decide +kernel⟩
set_option maxRecDepth 20000 in
theorem fX2_canPack_20 : FL wsX2_canPack RX2 20 2 1 := ⟨RX2, TX2, 3, rfl, by decide +kernel, by decide, by decide +kernel⟩
theorem yd_X8_fill : YD yX8_fill 1 := ⟨by decide +kernel, by decide +kernel, by decide +kernel⟩
set_option maxRecDepth 20000 in
theorem nX2_canPack_37 : ∀ w ∈ u_ws RX7 TX7 3, w ∈ wsX2_canPack := by decide +kernel
set_option maxRecDepth 20000 in
theorem fX2_canPack_47 : FL wsX2_canPack RX2 47 0 6 := ⟨RX0, TX0, 12, rfl, by decide +kernel, by decide, by decide +kernel⟩
set_option maxRecDepth 20000 in
theorem fX2_canPack_69 : FL wsX2_canPack RX2 69 0 1 := ⟨RX0, TX0, 12, rfl, by decide +kernel, by decide, by decide +kernel⟩
theorem yd_X2_takeIntoCase : YD yX2_takeIntoCase 3 := ⟨by decide +kernel, by decide +kernel, by decide +kernel⟩
theorem yd_X2_widen : YD yX2_widen 1 := ⟨by decide +kernel, by decide +kernel, by decide +kernel⟩
set_option maxRecDepth 20000 in
theorem fX2_canPack_96 : FL wsX2_canPack RX2 96 0 5 := ⟨RX0, TX0, 12, rfl, by decide +kernel, by decide, by decide +kernel⟩
theorem yd_X2_takeOnPerson : YD yX2_takeOnPerson 3 := ⟨by decide +kernel, by decide +kernel, by decide +kernel⟩
def s_X2_canPack_34s (nt : Nat) (cf : Nat → Int32) (tf : Nat → Int32) (itf : Nat → Int32) (x : Int32) (y : Int32) (t34 : Nat) (x34_5 : Int32) (y34_0 : Nat → Int32) (y34_1 : Nat → Int32) : Int32 × (Nat → Int32) × (Nat → Int32) := if ((x >>> ((nI t34) &&& 31)) &&& 1) = 0 then (x34_5, y34_0, y34_1) else ((x34_5 ||| (1 <<< ((tat 25 cf ((nI t34) * 5 + 0)) &&& 31))), (s_X2_takeIntoCase_3 nt cf tf ((s_X2_listItems_4 y 0 itf 12).2) (nI t34) y34_0 (((1 <<< ((s_X2_listItems itf y) &&& 31)) - 1).toNatClampNeg + 1)), (wdO (s_X2_takeIntoCase_3 nt cf tf ((s_X2_listItems_4 y 0 itf 12).2) (nI t34) y34_0 (((1 <<< ((s_X2_listItems itf y) &&& 31)) - 1).toNatClampNeg + 1)) ((1 <<< ((s_X2_listItems itf y) &&& 31)) - 1).toNatClampNeg y34_1))
def s_X2_canPack_34 (nt : Nat) (cf : Nat → Int32) (tf : Nat → Int32) (itf : Nat → Int32) (x : Int32) (y : Int32) (z0 : Int32) (z1 : Nat → Int32) (z2 : Nat → Int32) : Nat → Int32 × (Nat → Int32) × (Nat → Int32)
  | 0 => (z0, z1, z2)
  | t + 1 => s_X2_canPack_34s nt cf tf itf x y t ((s_X2_canPack_34 nt cf tf itf x y z0 z1 z2 t).1) ((s_X2_canPack_34 nt cf tf itf x y z0 z1 z2 t).2.1) ((s_X2_canPack_34 nt cf tf itf x y z0 z1 z2 t).2.2)
def s_X2_canPack_102s (nt : Nat) (nc : Nat) (pf : Nat → Int32) (cf : Nat → Int32) (tf : Nat → Int32) (plf : Nat → Int32) (itf : Nat → Int32) (tkf : Nat → Int32) (x : Int32) (y : Int32) (t102 : Nat) (y102_0 : Nat → Int32) (y102_1 : Nat → Int32) : (Nat → Int32) × (Nat → Int32) := if ((((s_X2_canPack_34 nt cf tf itf x y 0 tkf (tset 256 (fun _ => 0) 0 1) nc).1) >>> ((nI t102) &&& 31)) &&& 1) = 0 then (y102_0, y102_1) else ((s_X2_takeOnPerson_33 nt pf tf plf ((s_X2_listItems_4 y 0 itf 12).2) (nI t102) y102_0 (((1 <<< ((s_X2_listItems itf y) &&& 31)) - 1).toNatClampNeg + 1)), (wdO (s_X2_takeOnPerson_33 nt pf tf plf ((s_X2_listItems_4 y 0 itf 12).2) (nI t102) y102_0 (((1 <<< ((s_X2_listItems itf y) &&& 31)) - 1).toNatClampNeg + 1)) ((1 <<< ((s_X2_listItems itf y) &&& 31)) - 1).toNatClampNeg y102_1))
def s_X2_canPack_102 (nt : Nat) (nc : Nat) (pf : Nat → Int32) (cf : Nat → Int32) (tf : Nat → Int32) (plf : Nat → Int32) (itf : Nat → Int32) (tkf : Nat → Int32) (x : Int32) (y : Int32) (z0 : Nat → Int32) (z1 : Nat → Int32) : Nat → (Nat → Int32) × (Nat → Int32)
  | 0 => (z0, z1)
  | t + 1 => s_X2_canPack_102s nt nc pf cf tf plf itf tkf x y t ((s_X2_canPack_102 nt nc pf cf tf plf itf tkf x y z0 z1 t).1) ((s_X2_canPack_102 nt nc pf cf tf plf itf tkf x y z0 z1 t).2)
def s_X2_canPack (nt : Nat) (nc : Nat) (np : Nat) (pf : Nat → Int32) (cf : Nat → Int32) (tf : Nat → Int32) (plf : Nat → Int32) (itf : Nat → Int32) (tkf : Nat → Int32) (x : Int32) (y : Int32) : Int32 := if (tat 256 ((s_X2_canPack_102 nt nc pf cf tf plf itf tkf x y ((s_X2_canPack_34 nt cf tf itf x y 0 tkf (tset 256 (fun _ => 0) 0 1) nc).2.1) ((s_X2_canPack_34 nt cf tf itf x y 0 tkf (tset 256 (fun _ => 0) 0 1) nc).2.2) np).2) ((1 <<< ((s_X2_listItems itf y) &&& 31)) - 1)) = 0 then 0 else 1
set_option maxHeartbeats 4000000 in
set_option maxRecDepth 100000 in
theorem c_X2_canPack (l : Launch) (D : va_G) (cB cI cJ : ClassId) (ad : Nat → Nat) (n : Nat) (M : Nat → va_E) (hI : ipI ad n) (kb g h nn nt nc np : Nat) (op : Int32) (hv pf cf tf plf itf ref tkf : Nat → Int32) (x y : Int32) (h_kb : kb < n) (h_kb_1 : kb + 1 < n) (h_kb_2 : kb + 2 < n) (h_kb_3 : kb + 3 < n) (h_kb_4 : kb + 4 < n) (h_kb_5 : kb + 5 < n) (h_kb_6 : kb + 6 < n) (h_g : g < n) (h_g_1 : g + 1 < n) (h_g_2 : g + 2 < n) (h_h : h < n) (h_h_5 : h + 5 < n) (h_h_6 : h + 6 < n) (h_h_1 : h + 1 < n) (h_h_2 : h + 2 < n) (h_h_3 : h + 3 < n) (h_h_4 : h + 4 < n) (m_kb : M kb = .inr (2, packF ad kb)) (m_kb_1 : M (kb + 1) = .inr (8, [.int 1, .ref (ad (kb + 2))])) (m_kb_2 : M (kb + 2) = .inl (cI, 8, .inl itf)) (m_kb_3 : M (kb + 3) = .inr (8, [.int 1, .ref (ad (kb + 4))])) (m_kb_4 : M (kb + 4) = .inl (cI, 256, .inl ref)) (m_kb_5 : M (kb + 5) = .inr (8, [.int 1, .ref (ad (kb + 6))])) (m_kb_6 : M (kb + 6) = .inl (cI, 256, .inl tkf)) (m_g : M g = .inr (7, standF ad g h op)) (m_g_1 : M (g + 1) = .inr (8, [.int 1, .ref (ad (g + 2))])) (m_g_2 : M (g + 2) = .inl (cI, 12, .inl plf)) (m_h : M h = .inr (0, hallF ad h hv)) (m_h_5 : M (h + 5) = .inr (8, [.int 7, .ref (ad (h + 6))])) (m_h_6 : M (h + 6) = .inl (cI, 84, .inl tf)) (m_h_1 : M (h + 1) = .inr (8, [.int 3, .ref (ad (h + 2))])) (m_h_2 : M (h + 2) = .inl (cI, 12, .inl pf)) (m_h_3 : M (h + 3) = .inr (8, [.int 5, .ref (ad (h + 4))])) (m_h_4 : M (h + 4) = .inl (cI, 25, .inl cf)) (h7 : hv 7 = nI nt) (hnt : nt ≤ 12) (h6 : hv 6 = nI nc) (hnc : nc ≤ 5) (h5 : hv 5 = nI np) (hnp : np ≤ 4) (hLI : s_X2_listItems itf y = nI nn) (hnn : nn ≤ 8) (hkh : kb + 6 < h ∨ h + 15 < kb) (hkg : kb + 6 < g ∨ g + 2 < kb) : cWi l D cB cI cJ ad n M yX2_canPack wsX2_canPack 4 96 [.ref (ad kb), .ref (ad g), .int x, .int y] (fun r M' => r = s_X2_canPack nt nc np pf cf tf plf itf tkf x y ∧ M' (kb + 6) = .inl (cI, 256, .inl ((s_X2_canPack_102 nt nc pf cf tf plf itf tkf x y ((s_X2_canPack_34 nt cf tf itf x y 0 tkf (tset 256 (fun _ => 0) 0 1) nc).2.1) ((s_X2_canPack_34 nt cf tf itf x y 0 tkf (tset 256 (fun _ => 0) 0 1) nc).2.2) np).1)) ∧ M' (kb + 2) = .inl (cI, 8, .inl ((s_X2_listItems_4 y 0 itf 12).2)) ∧ M' (kb + 4) = .inl (cI, 256, .inl ((s_X2_canPack_102 nt nc pf cf tf plf itf tkf x y ((s_X2_canPack_34 nt cf tf itf x y 0 tkf (tset 256 (fun _ => 0) 0 1) nc).2.1) ((s_X2_canPack_34 nt cf tf itf x y 0 tkf (tset 256 (fun _ => 0) 0 1) nc).2.2) np).2)) ∧ ∀ q : Nat, q ≠ kb + 6 → q ≠ kb + 2 → q ≠ kb + 4 → M' q = M q) := by
  refine q_body (cc := cX2_canPack) (maxL := 7) (ret := (some .boolean)) (by decide) rfl (Nat.le_of_ble_eq_true rfl) ?_
  intro p e s m args below meth c ls X hr hlocks hK hP hl
  obtain ⟨hx, hb, hml, hown, hts⟩ := id X
  have hS : va_S (ipA ad n) s.heap s.heap [] := va_S.rf
  have hl : lv_has ls 7 [(0, .ref (ad kb)), (1, .ref (ad g)), (2, .int x), (3, .int y)] := hl
  refine lv_iconst (v := 1) hx hb dX2_canPack_0 (by decide) ?_
  refine lv_aload_n hx hb dX2_canPack_1 rfl (lv_at hl 0 rfl) ?_
  refine lv_iload_n hx hb dX2_canPack_2 rfl (lv_at hl 3 rfl) ?_
  refine q_wrVi (As := [.int y]) (rest := [.int 1]) (c_X2_listItems l D cB cI cJ ad n M hI kb itf y h_kb h_kb_1 h_kb_2 m_kb m_kb_1 m_kb_2 ) X hK hP hS hl.1 rfl gX2_canPack_X2_listItems yd_X2_listItems ⟨Nat.le_of_ble_eq_true rfl, Nat.le_of_ble_eq_true rfl⟩ h_kb m_kb (ci := 2) rfl rfl (Nat.le_of_ble_eq_true rfl) ⟨Nat.zero_le _, Nat.zero_le _⟩ dX2_canPack_3 (fun r3 M2 H locs hp1 hP hS => ?_)
  obtain ⟨rfl, g4, fr5⟩ := hp1
  refine lv_ishl hx hb dX2_canPack_6 ?_
  refine lv_iconst (v := 1) hx hb dX2_canPack_7 (by decide) ?_
  refine lv_isub hx hb dX2_canPack_8 ?_
  refine lv_istore (lv' := [(4, .int ((1 <<< ((s_X2_listItems itf y) &&& 31)) - 1)), (0, .ref (ad kb)), (1, .ref (ad g)), (2, .int x), (3, .int y)]) hx hb dX2_canPack_9 hl (by decide) rfl (fun ls hl => ?_)
  refine lv_aload_n hx hb dX2_canPack_11 rfl (lv_at hl 1 rfl) ?_
  refine q_get (v := .ref (ad (kb + 3))) (fs := packF ad kb) X hK hP fX2_canPack_20 h_kb ((fr5 kb (by omega)).trans m_kb) rfl dX2_canPack_12 ?_
  refine lv_iconst (v := 0) hx hb dX2_canPack_15 (by decide) ?_
  refine q_wrVv (As := [.int 0]) (rest := []) (c_X8_fill l D cB cI cJ ad n M2 hI (kb + 3) (kb + 4) 256 1 ref 0 h_kb_3 h_kb_4 ((fr5 (kb + 3) (by omega)).trans m_kb_3) ((fr5 (kb + 4) (by omega)).trans m_kb_4) (by decide)) X hK hP hS hl.1 rfl gX2_canPack_X8_fill yd_X8_fill ⟨Nat.le_of_ble_eq_true rfl, Nat.le_of_ble_eq_true rfl⟩ h_kb_3 ((fr5 (kb + 3) (by omega)).trans m_kb_3) (ci := 8) rfl rfl (Nat.le_of_ble_eq_true rfl) ⟨Nat.zero_le _, Nat.zero_le _⟩ dX2_canPack_16 (fun M7 H locs hp6 hP hS => ?_)
  obtain ⟨g9, fr10⟩ := hp6
  refine lv_aload_n hx hb dX2_canPack_19 rfl (lv_at hl 1 rfl) ?_
  refine q_get (v := .ref (ad (kb + 3))) (fs := packF ad kb) X hK hP fX2_canPack_20 h_kb ((fr10 kb (by omega)).trans ((fr5 kb (by omega)).trans m_kb)) rfl dX2_canPack_20 ?_
  refine lv_iconst (v := 0) hx hb dX2_canPack_23 (by decide) ?_
  refine lv_iconst (v := 1) hx hb dX2_canPack_24 (by decide) ?_
  refine q_wrVv (As := [.int 0, .int 1]) (rest := []) (c_X8_set l D cB cI cJ ad n M7 hI (kb + 3) (kb + 4) 256 1 (fun _ => 0) 0 1 h_kb_3 h_kb_4 ((fr10 (kb + 3) (by omega)).trans ((fr5 (kb + 3) (by omega)).trans m_kb_3)) g9 (by decide)) X hK hP hS hl.1 rfl gX2_canPack_X8_set yd_X8_set ⟨Nat.le_of_ble_eq_true rfl, Nat.le_of_ble_eq_true rfl⟩ h_kb_3 ((fr10 (kb + 3) (by omega)).trans ((fr5 (kb + 3) (by omega)).trans m_kb_3)) (ci := 8) rfl rfl (Nat.le_of_ble_eq_true rfl) ⟨Nat.zero_le _, Nat.zero_le _⟩ dX2_canPack_25 (fun M12 H locs hp11 hP hS => ?_)
  obtain ⟨g14, fr15⟩ := hp11
  refine lv_iconst (v := 0) hx hb dX2_canPack_28 (by decide) ?_
  refine lv_istore (lv' := [(5, .int 0), (4, .int ((1 <<< ((s_X2_listItems itf y) &&& 31)) - 1)), (0, .ref (ad kb)), (1, .ref (ad g)), (2, .int x), (3, .int y)]) hx hb dX2_canPack_29 hl (by decide) rfl (fun ls hl => ?_)
  refine lv_iconst (v := 0) hx hb dX2_canPack_31 (by decide) ?_
  refine lv_istore (lv' := [(6, .int 0), (5, .int 0), (4, .int ((1 <<< ((s_X2_listItems itf y) &&& 31)) - 1)), (0, .ref (ad kb)), (1, .ref (ad g)), (2, .int x), (3, .int y)]) hx hb dX2_canPack_32 hl (by decide) rfl (fun ls hl => ?_)
  have loop_34 : ∀ (fuel : Nat) (t34 : Nat) (x34_5 : Int32) (y34_0 : Nat → Int32) (y34_1 : Nat → Int32), nc - (t34) < fuel → t34 ≤ nc → x34_5 = (s_X2_canPack_34 nt cf tf itf x y 0 tkf (tset 256 (fun _ => 0) 0 1) t34).1 → y34_0 = (s_X2_canPack_34 nt cf tf itf x y 0 tkf (tset 256 (fun _ => 0) 0 1) t34).2.1 → y34_1 = (s_X2_canPack_34 nt cf tf itf x y 0 tkf (tset 256 (fun _ => 0) 0 1) t34).2.2 → ∀ (ML34 : Nat → va_E) (H : Heap) (locs : List Loc), ML34 (kb + 6) = .inl (cI, 256, .inl y34_0) → ML34 (kb + 4) = .inl (cI, 256, .inl y34_1) → (∀ q : Nat, q ≠ kb + 6 → q ≠ kb + 4 → ML34 q = M12 q) → va_P D vwCl (ip ad n ML34) H → va_S (ipA ad n) s.heap H locs → ∀ (ls : Array Slot), lv_has ls 7 [(6, .int (nI t34)), (5, .int x34_5), (4, .int ((1 <<< ((s_X2_listItems itf y) &&& 31)) - 1)), (0, .ref (ad kb)), (1, .ref (ad g)), (2, .int x), (3, .int y)] → W p l e (rmOf 4 96) s m args below meth c H locs 0 0 (MQ below (va_Qi (fun r M' => r = s_X2_canPack nt nc np pf cf tf plf itf tkf x y ∧ M' (kb + 6) = .inl (cI, 256, .inl ((s_X2_canPack_102 nt nc pf cf tf plf itf tkf x y ((s_X2_canPack_34 nt cf tf itf x y 0 tkf (tset 256 (fun _ => 0) 0 1) nc).2.1) ((s_X2_canPack_34 nt cf tf itf x y 0 tkf (tset 256 (fun _ => 0) 0 1) nc).2.2) np).1)) ∧ M' (kb + 2) = .inl (cI, 8, .inl ((s_X2_listItems_4 y 0 itf 12).2)) ∧ M' (kb + 4) = .inl (cI, 256, .inl ((s_X2_canPack_102 nt nc pf cf tf plf itf tkf x y ((s_X2_canPack_34 nt cf tf itf x y 0 tkf (tset 256 (fun _ => 0) 0 1) nc).2.1) ((s_X2_canPack_34 nt cf tf itf x y 0 tkf (tset 256 (fun _ => 0) 0 1) nc).2.2) np).2)) ∧ ∀ q : Nat, q ≠ kb + 6 → q ≠ kb + 2 → q ≠ kb + 4 → M' q = M q) (fun M' t => va_P D vwCl (ip ad n M') t.heap) (ipA ad n)) args s 0 0 (ipA ad n)) (F0 m 34 ls []) := by
    intro fuel
    induction fuel with
    | zero =>
      intro t34 x34_5 y34_0 y34_1 hz
      exact absurd hz (Nat.not_lt_zero _)
    | succ fuel ih_34 =>
      intro t34 x34_5 y34_0 y34_1 hz_34 h_t34 e_x34_5 e_y34_0 e_y34_1 ML34 H locs mL34_0 mL34_1 fL34 hP hS ls hl
      skip
      refine lv_iload hx hb dX2_canPack_34 (lv_at hl 0 rfl) ?_
      refine lv_aload_n hx hb dX2_canPack_36 rfl (lv_at hl 4 rfl) ?_
      refine q_getN (v := .ref (ad h)) (fs := standF ad g h op) (T := TX7) (k := 0) (C := RX7) (N := 3) (ci := 7) X hK hP hK.1.2.1 rfl nX2_canPack_37 (by decide) h_g ((fL34 g (by omega) (by omega)).trans ((fr15 g (by omega)).trans ((fr10 g (by omega)).trans ((fr5 g (by omega)).trans m_g)))) rfl dX2_canPack_37 ?_
      refine q_get (v := .int (hv 6)) (fs := hallF ad h hv) X hK hP fX2_canPack_47 h_h ((fL34 h (by omega) (by omega)).trans ((fr15 h (by omega)).trans ((fr10 h (by omega)).trans ((fr5 h (by omega)).trans m_h)))) rfl dX2_canPack_40 ?_
      refine lv_icmp_ge (tgt := 99) hx hb dX2_canPack_43 (by decide) (fun c_43 => ?_) (fun c_43 => ?_)
      · rw [h6] at c_43
        have h9_34 : t34 = nc := eq_of_le (t := t34) (k := nc) c_43 (by omega) h_t34
        subst t34
        subst e_x34_5
        subst e_y34_0
        subst e_y34_1
        refine lv_iconst (v := 0) hx hb dX2_canPack_99 (by decide) ?_
        refine lv_istore (lv' := [(6, .int 0), (5, .int ((s_X2_canPack_34 nt cf tf itf x y 0 tkf (tset 256 (fun _ => 0) 0 1) nc).1)), (4, .int ((1 <<< ((s_X2_listItems itf y) &&& 31)) - 1)), (0, .ref (ad kb)), (1, .ref (ad g)), (2, .int x), (3, .int y)]) hx hb dX2_canPack_100 hl (by decide) rfl (fun ls hl => ?_)
        have loop_102 : ∀ (fuel : Nat) (t102 : Nat) (y102_0 : Nat → Int32) (y102_1 : Nat → Int32), np - (t102) < fuel → t102 ≤ np → y102_0 = (s_X2_canPack_102 nt nc pf cf tf plf itf tkf x y ((s_X2_canPack_34 nt cf tf itf x y 0 tkf (tset 256 (fun _ => 0) 0 1) nc).2.1) ((s_X2_canPack_34 nt cf tf itf x y 0 tkf (tset 256 (fun _ => 0) 0 1) nc).2.2) t102).1 → y102_1 = (s_X2_canPack_102 nt nc pf cf tf plf itf tkf x y ((s_X2_canPack_34 nt cf tf itf x y 0 tkf (tset 256 (fun _ => 0) 0 1) nc).2.1) ((s_X2_canPack_34 nt cf tf itf x y 0 tkf (tset 256 (fun _ => 0) 0 1) nc).2.2) t102).2 → ∀ (ML102 : Nat → va_E) (H : Heap) (locs : List Loc), ML102 (kb + 6) = .inl (cI, 256, .inl y102_0) → ML102 (kb + 4) = .inl (cI, 256, .inl y102_1) → (∀ q : Nat, q ≠ kb + 6 → q ≠ kb + 4 → ML102 q = ML34 q) → va_P D vwCl (ip ad n ML102) H → va_S (ipA ad n) s.heap H locs → ∀ (ls : Array Slot), lv_has ls 7 [(6, .int (nI t102)), (5, .int ((s_X2_canPack_34 nt cf tf itf x y 0 tkf (tset 256 (fun _ => 0) 0 1) nc).1)), (4, .int ((1 <<< ((s_X2_listItems itf y) &&& 31)) - 1)), (0, .ref (ad kb)), (1, .ref (ad g)), (2, .int x), (3, .int y)] → W p l e (rmOf 4 96) s m args below meth c H locs 0 0 (MQ below (va_Qi (fun r M' => r = s_X2_canPack nt nc np pf cf tf plf itf tkf x y ∧ M' (kb + 6) = .inl (cI, 256, .inl ((s_X2_canPack_102 nt nc pf cf tf plf itf tkf x y ((s_X2_canPack_34 nt cf tf itf x y 0 tkf (tset 256 (fun _ => 0) 0 1) nc).2.1) ((s_X2_canPack_34 nt cf tf itf x y 0 tkf (tset 256 (fun _ => 0) 0 1) nc).2.2) np).1)) ∧ M' (kb + 2) = .inl (cI, 8, .inl ((s_X2_listItems_4 y 0 itf 12).2)) ∧ M' (kb + 4) = .inl (cI, 256, .inl ((s_X2_canPack_102 nt nc pf cf tf plf itf tkf x y ((s_X2_canPack_34 nt cf tf itf x y 0 tkf (tset 256 (fun _ => 0) 0 1) nc).2.1) ((s_X2_canPack_34 nt cf tf itf x y 0 tkf (tset 256 (fun _ => 0) 0 1) nc).2.2) np).2)) ∧ ∀ q : Nat, q ≠ kb + 6 → q ≠ kb + 2 → q ≠ kb + 4 → M' q = M q) (fun M' t => va_P D vwCl (ip ad n M') t.heap) (ipA ad n)) args s 0 0 (ipA ad n)) (F0 m 102 ls []) := by
          intro fuel
          induction fuel with
          | zero =>
            intro t102 y102_0 y102_1 hz
            exact absurd hz (Nat.not_lt_zero _)
          | succ fuel ih_102 =>
            intro t102 y102_0 y102_1 hz_102 h_t102 e_y102_0 e_y102_1 ML102 H locs mL102_0 mL102_1 fL102 hP hS ls hl
            skip
            refine lv_iload hx hb dX2_canPack_102 (lv_at hl 0 rfl) ?_
            refine lv_aload_n hx hb dX2_canPack_104 rfl (lv_at hl 4 rfl) ?_
            refine q_getN (v := .ref (ad h)) (fs := standF ad g h op) (T := TX7) (k := 0) (C := RX7) (N := 3) (ci := 7) X hK hP hK.1.2.1 rfl nX2_canPack_37 (by decide) h_g ((fL102 g (by omega) (by omega)).trans ((fL34 g (by omega) (by omega)).trans ((fr15 g (by omega)).trans ((fr10 g (by omega)).trans ((fr5 g (by omega)).trans m_g))))) rfl dX2_canPack_105 ?_
            refine q_get (v := .int (hv 5)) (fs := hallF ad h hv) X hK hP fX2_canPack_96 h_h ((fL102 h (by omega) (by omega)).trans ((fL34 h (by omega) (by omega)).trans ((fr15 h (by omega)).trans ((fr10 h (by omega)).trans ((fr5 h (by omega)).trans m_h))))) rfl dX2_canPack_108 ?_
            refine lv_icmp_ge (tgt := 145) hx hb dX2_canPack_111 (by decide) (fun c_111 => ?_) (fun c_111 => ?_)
            · rw [h5] at c_111
              have h9_102 : t102 = np := eq_of_le (t := t102) (k := np) c_111 (by omega) h_t102
              subst t102
              subst e_y102_0
              subst e_y102_1
              refine lv_aload_n hx hb dX2_canPack_145 rfl (lv_at hl 3 rfl) ?_
              refine q_get (v := .ref (ad (kb + 3))) (fs := packF ad kb) X hK hP fX2_canPack_20 h_kb ((fL102 kb (by omega) (by omega)).trans ((fL34 kb (by omega) (by omega)).trans ((fr15 kb (by omega)).trans ((fr10 kb (by omega)).trans ((fr5 kb (by omega)).trans m_kb))))) rfl dX2_canPack_146 ?_
              refine lv_iload hx hb dX2_canPack_149 (lv_at hl 2 rfl) ?_
              refine q_rdV (As := [.int ((1 <<< ((s_X2_listItems itf y) &&& 31)) - 1)]) (rest := []) (c_X8_at l D cB cI cJ ad n ML102 (kb + 3) (kb + 4) 256 1 ((s_X2_canPack_102 nt nc pf cf tf plf itf tkf x y ((s_X2_canPack_34 nt cf tf itf x y 0 tkf (tset 256 (fun _ => 0) 0 1) nc).2.1) ((s_X2_canPack_34 nt cf tf itf x y 0 tkf (tset 256 (fun _ => 0) 0 1) nc).2.2) np).2) ((1 <<< ((s_X2_listItems itf y) &&& 31)) - 1) h_kb_3 h_kb_4 ((fL102 (kb + 3) (by omega) (by omega)).trans ((fL34 (kb + 3) (by omega) (by omega)).trans ((fr15 (kb + 3) (by omega)).trans ((fr10 (kb + 3) (by omega)).trans ((fr5 (kb + 3) (by omega)).trans m_kb_3))))) mL102_1 (by decide)) X hK hP hS hl.1 rfl gX2_canPack_X8_at yd_X8_at ⟨Nat.le_of_ble_eq_true rfl, Nat.le_of_ble_eq_true rfl⟩ h_kb_3 ((fL102 (kb + 3) (by omega) (by omega)).trans ((fL34 (kb + 3) (by omega) (by omega)).trans ((fr15 (kb + 3) (by omega)).trans ((fr10 (kb + 3) (by omega)).trans ((fr5 (kb + 3) (by omega)).trans m_kb_3))))) (ci := 8) rfl rfl (Nat.le_of_ble_eq_true rfl) ⟨Nat.zero_le _, Nat.zero_le _⟩ dX2_canPack_151 ?_
              refine lv_if_eq (tgt := 161) hx hb dX2_canPack_154 (by decide) (fun c_154 => ?_) (fun c_154 => ?_)
              · skip
                refine lv_iconst (v := 0) hx hb dX2_canPack_161 (by decide) ?_
                exact q_wzret X hr hlocks hP hS (rfl) ⟨(by rw [s_X2_canPack, if_pos c_154]), mL102_0, ((fL102 (kb + 2) (by omega) (by omega)).trans ((fL34 (kb + 2) (by omega) (by omega)).trans ((fr15 (kb + 2) (by omega)).trans ((fr10 (kb + 2) (by omega)).trans g4)))), mL102_1, (fun q n0 n1 n2 => ((fL102 q n0 n2).trans ((fL34 q n0 n2).trans ((fr15 q n2).trans ((fr10 q n2).trans (fr5 q n1))))))⟩ dX2_canPack_162
              · skip
                refine lv_iconst (v := 1) hx hb dX2_canPack_157 (by decide) ?_
                refine lv_goto (tgt := 162) hx hb dX2_canPack_158 (by decide) ?_
                exact q_wzret X hr hlocks hP hS (rfl) ⟨(by rw [s_X2_canPack, if_neg c_154]), mL102_0, ((fL102 (kb + 2) (by omega) (by omega)).trans ((fL34 (kb + 2) (by omega) (by omega)).trans ((fr15 (kb + 2) (by omega)).trans ((fr10 (kb + 2) (by omega)).trans g4)))), mL102_1, (fun q n0 n1 n2 => ((fL102 q n0 n2).trans ((fL34 q n0 n2).trans ((fr15 q n2).trans ((fr10 q n2).trans (fr5 q n1))))))⟩ dX2_canPack_162
            · rw [h5] at c_111
              have h9_102 : t102 < np := lt_of_nlt (t := t102) (k := np) c_111 (by omega) h_t102
              refine lv_iload hx hb dX2_canPack_114 (lv_at hl 1 rfl) ?_
              refine lv_iload hx hb dX2_canPack_116 (lv_at hl 0 rfl) ?_
              refine lv_ishr hx hb dX2_canPack_118 ?_
              refine lv_iconst (v := 1) hx hb dX2_canPack_119 (by decide) ?_
              refine lv_iand hx hb dX2_canPack_120 ?_
              refine lv_if_eq (tgt := 139) hx hb dX2_canPack_121 (by decide) (fun c_121 => ?_) (fun c_121 => ?_)
              · skip
                refine lv_iinc (v := ((nI t102) + 1)) (lv' := [(6, .int ((nI t102) + 1)), (5, .int ((s_X2_canPack_34 nt cf tf itf x y 0 tkf (tset 256 (fun _ => 0) 0 1) nc).1)), (4, .int ((1 <<< ((s_X2_listItems itf y) &&& 31)) - 1)), (0, .ref (ad kb)), (1, .ref (ad g)), (2, .int x), (3, .int y)]) hx hb dX2_canPack_139 hl (k := 0) rfl rfl (by decide) rfl (fun ls hl => ?_)
                refine lv_goto (tgt := 102) hx hb dX2_canPack_142 (by decide) ?_
                exact ih_102 (t102 + 1) y102_0 y102_1 (by omega) (by omega) (by rw [s_X2_canPack_102, ← e_y102_0, ← e_y102_1, s_X2_canPack_102s, if_pos c_121]) (by rw [s_X2_canPack_102, ← e_y102_0, ← e_y102_1, s_X2_canPack_102s, if_pos c_121]) _ _ _ mL102_0 mL102_1 (fun q n0 n1 => (fL102 q n0 n1)) hP hS ls (by rw [(show nI (t102 + 1) = nI t102 + 1 by exact nI_succ _)]; exact lv_sub hl [0, 1, 2, 3, 4, 5, 6] rfl)
              · skip
                refine lv_aload_n hx hb dX2_canPack_124 rfl (lv_at hl 3 rfl) ?_
                refine lv_aload_n hx hb dX2_canPack_125 rfl (lv_at hl 4 rfl) ?_
                refine lv_iload hx hb dX2_canPack_126 (lv_at hl 0 rfl) ?_
                refine lv_iload hx hb dX2_canPack_128 (lv_at hl 2 rfl) ?_
                refine q_wrVv (As := [.ref (ad g), .int (nI t102), .int ((1 <<< ((s_X2_listItems itf y) &&& 31)) - 1)]) (rest := []) (c_X2_takeOnPerson l D cB cI cJ ad n ML102 hI kb g h nt op hv pf tf plf ((s_X2_listItems_4 y 0 itf 12).2) y102_0 (nI t102) ((1 <<< ((s_X2_listItems itf y) &&& 31)) - 1) h_kb h_kb_1 h_kb_2 h_kb_5 h_kb_6 h_g h_g_1 h_g_2 h_h h_h_5 h_h_6 h_h_1 h_h_2 ((fL102 kb (by omega) (by omega)).trans ((fL34 kb (by omega) (by omega)).trans ((fr15 kb (by omega)).trans ((fr10 kb (by omega)).trans ((fr5 kb (by omega)).trans m_kb))))) ((fL102 (kb + 1) (by omega) (by omega)).trans ((fL34 (kb + 1) (by omega) (by omega)).trans ((fr15 (kb + 1) (by omega)).trans ((fr10 (kb + 1) (by omega)).trans ((fr5 (kb + 1) (by omega)).trans m_kb_1))))) ((fL102 (kb + 2) (by omega) (by omega)).trans ((fL34 (kb + 2) (by omega) (by omega)).trans ((fr15 (kb + 2) (by omega)).trans ((fr10 (kb + 2) (by omega)).trans g4)))) ((fL102 (kb + 5) (by omega) (by omega)).trans ((fL34 (kb + 5) (by omega) (by omega)).trans ((fr15 (kb + 5) (by omega)).trans ((fr10 (kb + 5) (by omega)).trans ((fr5 (kb + 5) (by omega)).trans m_kb_5))))) mL102_0 ((fL102 g (by omega) (by omega)).trans ((fL34 g (by omega) (by omega)).trans ((fr15 g (by omega)).trans ((fr10 g (by omega)).trans ((fr5 g (by omega)).trans m_g))))) ((fL102 (g + 1) (by omega) (by omega)).trans ((fL34 (g + 1) (by omega) (by omega)).trans ((fr15 (g + 1) (by omega)).trans ((fr10 (g + 1) (by omega)).trans ((fr5 (g + 1) (by omega)).trans m_g_1))))) ((fL102 (g + 2) (by omega) (by omega)).trans ((fL34 (g + 2) (by omega) (by omega)).trans ((fr15 (g + 2) (by omega)).trans ((fr10 (g + 2) (by omega)).trans ((fr5 (g + 2) (by omega)).trans m_g_2))))) ((fL102 h (by omega) (by omega)).trans ((fL34 h (by omega) (by omega)).trans ((fr15 h (by omega)).trans ((fr10 h (by omega)).trans ((fr5 h (by omega)).trans m_h))))) ((fL102 (h + 5) (by omega) (by omega)).trans ((fL34 (h + 5) (by omega) (by omega)).trans ((fr15 (h + 5) (by omega)).trans ((fr10 (h + 5) (by omega)).trans ((fr5 (h + 5) (by omega)).trans m_h_5))))) ((fL102 (h + 6) (by omega) (by omega)).trans ((fL34 (h + 6) (by omega) (by omega)).trans ((fr15 (h + 6) (by omega)).trans ((fr10 (h + 6) (by omega)).trans ((fr5 (h + 6) (by omega)).trans m_h_6))))) ((fL102 (h + 1) (by omega) (by omega)).trans ((fL34 (h + 1) (by omega) (by omega)).trans ((fr15 (h + 1) (by omega)).trans ((fr10 (h + 1) (by omega)).trans ((fr5 (h + 1) (by omega)).trans m_h_1))))) ((fL102 (h + 2) (by omega) (by omega)).trans ((fL34 (h + 2) (by omega) (by omega)).trans ((fr15 (h + 2) (by omega)).trans ((fr10 (h + 2) (by omega)).trans ((fr5 (h + 2) (by omega)).trans m_h_2))))) h7 hnt ((sh_all2 hLI hnn).1) ((sh_all2 hLI hnn).2) hkh hkg) X hK hP hS hl.1 rfl gX2_canPack_X2_takeOnPerson yd_X2_takeOnPerson ⟨Nat.le_of_ble_eq_true rfl, Nat.le_of_ble_eq_true rfl⟩ h_kb ((fL102 kb (by omega) (by omega)).trans ((fL34 kb (by omega) (by omega)).trans ((fr15 kb (by omega)).trans ((fr10 kb (by omega)).trans ((fr5 kb (by omega)).trans m_kb))))) (ci := 2) rfl rfl (Nat.le_of_ble_eq_true rfl) ⟨Nat.zero_le _, Nat.zero_le _⟩ dX2_canPack_130 (fun M17 H locs hp16 hP hS => ?_)
                obtain ⟨g19, fr20⟩ := hp16
                refine lv_aload_n hx hb dX2_canPack_133 rfl (lv_at hl 3 rfl) ?_
                refine lv_iload hx hb dX2_canPack_134 (lv_at hl 2 rfl) ?_
                refine q_wrVv (As := [.int ((1 <<< ((s_X2_listItems itf y) &&& 31)) - 1)]) (rest := []) (c_X2_widen l D cB cI cJ ad n M17 hI kb y102_1 (s_X2_takeOnPerson_33 nt pf tf plf ((s_X2_listItems_4 y 0 itf 12).2) (nI t102) y102_0 (((1 <<< ((s_X2_listItems itf y) &&& 31)) - 1).toNatClampNeg + 1)) ((1 <<< ((s_X2_listItems itf y) &&& 31)) - 1) h_kb h_kb_3 h_kb_4 h_kb_5 h_kb_6 ((fr20 kb (by omega)).trans ((fL102 kb (by omega) (by omega)).trans ((fL34 kb (by omega) (by omega)).trans ((fr15 kb (by omega)).trans ((fr10 kb (by omega)).trans ((fr5 kb (by omega)).trans m_kb)))))) ((fr20 (kb + 3) (by omega)).trans ((fL102 (kb + 3) (by omega) (by omega)).trans ((fL34 (kb + 3) (by omega) (by omega)).trans ((fr15 (kb + 3) (by omega)).trans ((fr10 (kb + 3) (by omega)).trans ((fr5 (kb + 3) (by omega)).trans m_kb_3)))))) ((fr20 (kb + 4) (by omega)).trans mL102_1) ((fr20 (kb + 5) (by omega)).trans ((fL102 (kb + 5) (by omega) (by omega)).trans ((fL34 (kb + 5) (by omega) (by omega)).trans ((fr15 (kb + 5) (by omega)).trans ((fr10 (kb + 5) (by omega)).trans ((fr5 (kb + 5) (by omega)).trans m_kb_5)))))) g19 ((sh_all2 hLI hnn).1) ((sh_all2 hLI hnn).2)) X hK hP hS hl.1 rfl gX2_canPack_X2_widen yd_X2_widen ⟨Nat.le_of_ble_eq_true rfl, Nat.le_of_ble_eq_true rfl⟩ h_kb ((fr20 kb (by omega)).trans ((fL102 kb (by omega) (by omega)).trans ((fL34 kb (by omega) (by omega)).trans ((fr15 kb (by omega)).trans ((fr10 kb (by omega)).trans ((fr5 kb (by omega)).trans m_kb)))))) (ci := 2) rfl rfl (Nat.le_of_ble_eq_true rfl) ⟨Nat.zero_le _, Nat.zero_le _⟩ dX2_canPack_136 (fun M22 H locs hp21 hP hS => ?_)
                obtain ⟨g24, fr25⟩ := hp21
                refine lv_iinc (v := ((nI t102) + 1)) (lv' := [(6, .int ((nI t102) + 1)), (5, .int ((s_X2_canPack_34 nt cf tf itf x y 0 tkf (tset 256 (fun _ => 0) 0 1) nc).1)), (4, .int ((1 <<< ((s_X2_listItems itf y) &&& 31)) - 1)), (0, .ref (ad kb)), (1, .ref (ad g)), (2, .int x), (3, .int y)]) hx hb dX2_canPack_139 hl (k := 0) rfl rfl (by decide) rfl (fun ls hl => ?_)
                refine lv_goto (tgt := 102) hx hb dX2_canPack_142 (by decide) ?_
                exact ih_102 (t102 + 1) (s_X2_takeOnPerson_33 nt pf tf plf ((s_X2_listItems_4 y 0 itf 12).2) (nI t102) y102_0 (((1 <<< ((s_X2_listItems itf y) &&& 31)) - 1).toNatClampNeg + 1)) (wdO (s_X2_takeOnPerson_33 nt pf tf plf ((s_X2_listItems_4 y 0 itf 12).2) (nI t102) y102_0 (((1 <<< ((s_X2_listItems itf y) &&& 31)) - 1).toNatClampNeg + 1)) ((1 <<< ((s_X2_listItems itf y) &&& 31)) - 1).toNatClampNeg y102_1) (by omega) (by omega) (by rw [s_X2_canPack_102, ← e_y102_0, ← e_y102_1, s_X2_canPack_102s, if_neg c_121]) (by rw [s_X2_canPack_102, ← e_y102_0, ← e_y102_1, s_X2_canPack_102s, if_neg c_121]) _ _ _ ((fr25 (kb + 6) (by omega)).trans g19) g24 (fun q n0 n1 => ((fr25 q n1).trans ((fr20 q n0).trans (fL102 q n0 n1)))) hP hS ls (by rw [(show nI (t102 + 1) = nI t102 + 1 by exact nI_succ _)]; exact lv_sub hl [0, 1, 2, 3, 4, 5, 6] rfl)
        exact loop_102 (np + 1) 0 ((s_X2_canPack_34 nt cf tf itf x y 0 tkf (tset 256 (fun _ => 0) 0 1) nc).2.1) ((s_X2_canPack_34 nt cf tf itf x y 0 tkf (tset 256 (fun _ => 0) 0 1) nc).2.2) (by omega) (by omega) (by rfl) (by rfl) _ _ _ mL34_0 mL34_1 (fun q n0 n1 => rfl) hP hS ls (lv_sub hl [0, 1, 2, 3, 4, 5, 6] rfl)
      · rw [h6] at c_43
        have h9_34 : t34 < nc := lt_of_nlt (t := t34) (k := nc) c_43 (by omega) h_t34
        refine lv_iload_n hx hb dX2_canPack_46 rfl (lv_at hl 5 rfl) ?_
        refine lv_iload hx hb dX2_canPack_47 (lv_at hl 0 rfl) ?_
        refine lv_ishr hx hb dX2_canPack_49 ?_
        refine lv_iconst (v := 1) hx hb dX2_canPack_50 (by decide) ?_
        refine lv_iand hx hb dX2_canPack_51 ?_
        refine lv_if_eq (tgt := 93) hx hb dX2_canPack_52 (by decide) (fun c_52 => ?_) (fun c_52 => ?_)
        · skip
          refine lv_iinc (v := ((nI t34) + 1)) (lv' := [(6, .int ((nI t34) + 1)), (5, .int x34_5), (4, .int ((1 <<< ((s_X2_listItems itf y) &&& 31)) - 1)), (0, .ref (ad kb)), (1, .ref (ad g)), (2, .int x), (3, .int y)]) hx hb dX2_canPack_93 hl (k := 0) rfl rfl (by decide) rfl (fun ls hl => ?_)
          refine lv_goto (tgt := 34) hx hb dX2_canPack_96 (by decide) ?_
          exact ih_34 (t34 + 1) x34_5 y34_0 y34_1 (by omega) (by omega) (by rw [s_X2_canPack_34, ← e_x34_5, ← e_y34_0, ← e_y34_1, s_X2_canPack_34s, if_pos c_52]) (by rw [s_X2_canPack_34, ← e_x34_5, ← e_y34_0, ← e_y34_1, s_X2_canPack_34s, if_pos c_52]) (by rw [s_X2_canPack_34, ← e_x34_5, ← e_y34_0, ← e_y34_1, s_X2_canPack_34s, if_pos c_52]) _ _ _ mL34_0 mL34_1 (fun q n0 n1 => (fL34 q n0 n1)) hP hS ls (by rw [(show nI (t34 + 1) = nI t34 + 1 by exact nI_succ _)]; exact lv_sub hl [0, 1, 2, 3, 4, 5, 6] rfl)
        · skip
          refine lv_iload hx hb dX2_canPack_55 (lv_at hl 1 rfl) ?_
          refine lv_iconst (v := 1) hx hb dX2_canPack_57 (by decide) ?_
          refine lv_aload_n hx hb dX2_canPack_58 rfl (lv_at hl 4 rfl) ?_
          refine q_getN (v := .ref (ad h)) (fs := standF ad g h op) (T := TX7) (k := 0) (C := RX7) (N := 3) (ci := 7) X hK hP hK.1.2.1 rfl nX2_canPack_37 (by decide) h_g ((fL34 g (by omega) (by omega)).trans ((fr15 g (by omega)).trans ((fr10 g (by omega)).trans ((fr5 g (by omega)).trans m_g)))) rfl dX2_canPack_59 ?_
          refine q_get (v := .ref (ad (h + 3))) (fs := hallF ad h hv) X hK hP fX2_canPack_69 h_h ((fL34 h (by omega) (by omega)).trans ((fr15 h (by omega)).trans ((fr10 h (by omega)).trans ((fr5 h (by omega)).trans m_h)))) rfl dX2_canPack_62 ?_
          refine lv_iload hx hb dX2_canPack_65 (lv_at hl 0 rfl) ?_
          refine lv_iconst (v := 0) hx hb dX2_canPack_67 (by decide) ?_
          refine q_rdV (As := [.int (nI t34), .int 0]) (rest := [.int 1, .int x34_5]) (c_X8_at_ l D cB cI cJ ad n ML34 (h + 3) (h + 4) 25 5 cf (nI t34) 0 h_h_3 h_h_4 ((fL34 (h + 3) (by omega) (by omega)).trans ((fr15 (h + 3) (by omega)).trans ((fr10 (h + 3) (by omega)).trans ((fr5 (h + 3) (by omega)).trans m_h_3)))) ((fL34 (h + 4) (by omega) (by omega)).trans ((fr15 (h + 4) (by omega)).trans ((fr10 (h + 4) (by omega)).trans ((fr5 (h + 4) (by omega)).trans m_h_4)))) (by decide)) X hK hP hS hl.1 rfl gX2_canPack_X8_at_ yd_X8_at_ ⟨Nat.le_of_ble_eq_true rfl, Nat.le_of_ble_eq_true rfl⟩ h_h_3 ((fL34 (h + 3) (by omega) (by omega)).trans ((fr15 (h + 3) (by omega)).trans ((fr10 (h + 3) (by omega)).trans ((fr5 (h + 3) (by omega)).trans m_h_3)))) (ci := 8) rfl rfl (Nat.le_of_ble_eq_true rfl) ⟨Nat.zero_le _, Nat.zero_le _⟩ dX2_canPack_68 ?_
          refine lv_ishl hx hb dX2_canPack_71 ?_
          refine lv_ior hx hb dX2_canPack_72 ?_
          refine lv_istore (lv' := [(5, .int (x34_5 ||| (1 <<< ((tat 25 cf ((nI t34) * 5 + 0)) &&& 31)))), (6, .int (nI t34)), (4, .int ((1 <<< ((s_X2_listItems itf y) &&& 31)) - 1)), (0, .ref (ad kb)), (1, .ref (ad g)), (2, .int x), (3, .int y)]) hx hb dX2_canPack_73 hl (by decide) rfl (fun ls hl => ?_)
          refine lv_aload_n hx hb dX2_canPack_75 rfl (lv_at hl 3 rfl) ?_
          refine lv_aload_n hx hb dX2_canPack_76 rfl (lv_at hl 4 rfl) ?_
          refine q_getN (v := .ref (ad h)) (fs := standF ad g h op) (T := TX7) (k := 0) (C := RX7) (N := 3) (ci := 7) X hK hP hK.1.2.1 rfl nX2_canPack_37 (by decide) h_g ((fL34 g (by omega) (by omega)).trans ((fr15 g (by omega)).trans ((fr10 g (by omega)).trans ((fr5 g (by omega)).trans m_g)))) rfl dX2_canPack_77 ?_
          refine lv_iload hx hb dX2_canPack_80 (lv_at hl 1 rfl) ?_
          refine lv_iload hx hb dX2_canPack_82 (lv_at hl 2 rfl) ?_
          refine q_wrVv (As := [.ref (ad h), .int (nI t34), .int ((1 <<< ((s_X2_listItems itf y) &&& 31)) - 1)]) (rest := []) (c_X2_takeIntoCase l D cB cI cJ ad n ML34 hI kb h nt hv cf tf ((s_X2_listItems_4 y 0 itf 12).2) y34_0 (nI t34) ((1 <<< ((s_X2_listItems itf y) &&& 31)) - 1) h_kb h_kb_1 h_kb_2 h_kb_5 h_kb_6 h_h h_h_3 h_h_4 h_h_5 h_h_6 ((fL34 kb (by omega) (by omega)).trans ((fr15 kb (by omega)).trans ((fr10 kb (by omega)).trans ((fr5 kb (by omega)).trans m_kb)))) ((fL34 (kb + 1) (by omega) (by omega)).trans ((fr15 (kb + 1) (by omega)).trans ((fr10 (kb + 1) (by omega)).trans ((fr5 (kb + 1) (by omega)).trans m_kb_1)))) ((fL34 (kb + 2) (by omega) (by omega)).trans ((fr15 (kb + 2) (by omega)).trans ((fr10 (kb + 2) (by omega)).trans g4))) ((fL34 (kb + 5) (by omega) (by omega)).trans ((fr15 (kb + 5) (by omega)).trans ((fr10 (kb + 5) (by omega)).trans ((fr5 (kb + 5) (by omega)).trans m_kb_5)))) mL34_0 ((fL34 h (by omega) (by omega)).trans ((fr15 h (by omega)).trans ((fr10 h (by omega)).trans ((fr5 h (by omega)).trans m_h)))) ((fL34 (h + 3) (by omega) (by omega)).trans ((fr15 (h + 3) (by omega)).trans ((fr10 (h + 3) (by omega)).trans ((fr5 (h + 3) (by omega)).trans m_h_3)))) ((fL34 (h + 4) (by omega) (by omega)).trans ((fr15 (h + 4) (by omega)).trans ((fr10 (h + 4) (by omega)).trans ((fr5 (h + 4) (by omega)).trans m_h_4)))) ((fL34 (h + 5) (by omega) (by omega)).trans ((fr15 (h + 5) (by omega)).trans ((fr10 (h + 5) (by omega)).trans ((fr5 (h + 5) (by omega)).trans m_h_5)))) ((fL34 (h + 6) (by omega) (by omega)).trans ((fr15 (h + 6) (by omega)).trans ((fr10 (h + 6) (by omega)).trans ((fr5 (h + 6) (by omega)).trans m_h_6)))) h7 hnt ((sh_all2 hLI hnn).1) ((sh_all2 hLI hnn).2) hkh) X hK hP hS hl.1 rfl gX2_canPack_X2_takeIntoCase yd_X2_takeIntoCase ⟨Nat.le_of_ble_eq_true rfl, Nat.le_of_ble_eq_true rfl⟩ h_kb ((fL34 kb (by omega) (by omega)).trans ((fr15 kb (by omega)).trans ((fr10 kb (by omega)).trans ((fr5 kb (by omega)).trans m_kb)))) (ci := 2) rfl rfl (Nat.le_of_ble_eq_true rfl) ⟨Nat.zero_le _, Nat.zero_le _⟩ dX2_canPack_84 (fun M27 H locs hp26 hP hS => ?_)
          obtain ⟨g29, fr30⟩ := hp26
          refine lv_aload_n hx hb dX2_canPack_87 rfl (lv_at hl 3 rfl) ?_
          refine lv_iload hx hb dX2_canPack_88 (lv_at hl 2 rfl) ?_
          refine q_wrVv (As := [.int ((1 <<< ((s_X2_listItems itf y) &&& 31)) - 1)]) (rest := []) (c_X2_widen l D cB cI cJ ad n M27 hI kb y34_1 (s_X2_takeIntoCase_3 nt cf tf ((s_X2_listItems_4 y 0 itf 12).2) (nI t34) y34_0 (((1 <<< ((s_X2_listItems itf y) &&& 31)) - 1).toNatClampNeg + 1)) ((1 <<< ((s_X2_listItems itf y) &&& 31)) - 1) h_kb h_kb_3 h_kb_4 h_kb_5 h_kb_6 ((fr30 kb (by omega)).trans ((fL34 kb (by omega) (by omega)).trans ((fr15 kb (by omega)).trans ((fr10 kb (by omega)).trans ((fr5 kb (by omega)).trans m_kb))))) ((fr30 (kb + 3) (by omega)).trans ((fL34 (kb + 3) (by omega) (by omega)).trans ((fr15 (kb + 3) (by omega)).trans ((fr10 (kb + 3) (by omega)).trans ((fr5 (kb + 3) (by omega)).trans m_kb_3))))) ((fr30 (kb + 4) (by omega)).trans mL34_1) ((fr30 (kb + 5) (by omega)).trans ((fL34 (kb + 5) (by omega) (by omega)).trans ((fr15 (kb + 5) (by omega)).trans ((fr10 (kb + 5) (by omega)).trans ((fr5 (kb + 5) (by omega)).trans m_kb_5))))) g29 ((sh_all2 hLI hnn).1) ((sh_all2 hLI hnn).2)) X hK hP hS hl.1 rfl gX2_canPack_X2_widen yd_X2_widen ⟨Nat.le_of_ble_eq_true rfl, Nat.le_of_ble_eq_true rfl⟩ h_kb ((fr30 kb (by omega)).trans ((fL34 kb (by omega) (by omega)).trans ((fr15 kb (by omega)).trans ((fr10 kb (by omega)).trans ((fr5 kb (by omega)).trans m_kb))))) (ci := 2) rfl rfl (Nat.le_of_ble_eq_true rfl) ⟨Nat.zero_le _, Nat.zero_le _⟩ dX2_canPack_90 (fun M32 H locs hp31 hP hS => ?_)
          obtain ⟨g34, fr35⟩ := hp31
          refine lv_iinc (v := ((nI t34) + 1)) (lv' := [(6, .int ((nI t34) + 1)), (5, .int (x34_5 ||| (1 <<< ((tat 25 cf ((nI t34) * 5 + 0)) &&& 31)))), (4, .int ((1 <<< ((s_X2_listItems itf y) &&& 31)) - 1)), (0, .ref (ad kb)), (1, .ref (ad g)), (2, .int x), (3, .int y)]) hx hb dX2_canPack_93 hl (k := 1) rfl rfl (by decide) rfl (fun ls hl => ?_)
          refine lv_goto (tgt := 34) hx hb dX2_canPack_96 (by decide) ?_
          exact ih_34 (t34 + 1) (x34_5 ||| (1 <<< ((tat 25 cf ((nI t34) * 5 + 0)) &&& 31))) (s_X2_takeIntoCase_3 nt cf tf ((s_X2_listItems_4 y 0 itf 12).2) (nI t34) y34_0 (((1 <<< ((s_X2_listItems itf y) &&& 31)) - 1).toNatClampNeg + 1)) (wdO (s_X2_takeIntoCase_3 nt cf tf ((s_X2_listItems_4 y 0 itf 12).2) (nI t34) y34_0 (((1 <<< ((s_X2_listItems itf y) &&& 31)) - 1).toNatClampNeg + 1)) ((1 <<< ((s_X2_listItems itf y) &&& 31)) - 1).toNatClampNeg y34_1) (by omega) (by omega) (by rw [s_X2_canPack_34, ← e_x34_5, ← e_y34_0, ← e_y34_1, s_X2_canPack_34s, if_neg c_52]) (by rw [s_X2_canPack_34, ← e_x34_5, ← e_y34_0, ← e_y34_1, s_X2_canPack_34s, if_neg c_52]) (by rw [s_X2_canPack_34, ← e_x34_5, ← e_y34_0, ← e_y34_1, s_X2_canPack_34s, if_neg c_52]) _ _ _ ((fr35 (kb + 6) (by omega)).trans g29) g34 (fun q n0 n1 => ((fr35 q n1).trans ((fr30 q n0).trans (fL34 q n0 n1)))) hP hS ls (by rw [(show nI (t34 + 1) = nI t34 + 1 by exact nI_succ _)]; exact lv_sub hl [0, 1, 2, 3, 4, 5, 6] rfl)
  exact loop_34 (nc + 1) 0 0 tkf (tset 256 (fun _ => 0) 0 1) (by omega) (by omega) (by rfl) (by rfl) (by rfl) _ _ _ ((fr15 (kb + 6) (by omega)).trans ((fr10 (kb + 6) (by omega)).trans ((fr5 (kb + 6) (by omega)).trans m_kb_6))) g14 (fun q n0 n1 => rfl) hP hS ls (lv_sub hl [0, 1, 2, 3, 4, 5, 6] rfl)
